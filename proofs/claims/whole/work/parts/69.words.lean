/-! reading: the class and the reference read words and numbers alike -/
theorem skG_ge {c : Int → Prop} [DecidablePred c] : ∀ (n : Nat) (a : Int), a ≤ skG c n a := by
  intro n
  induction n with
  | zero => intro a; exact Int.le_refl a
  | succ n ih =>
    intro a
    rw [skG_s]
    split
    · have := ih (a + 1); omega
    · exact Int.le_refl a
theorem skG_id {c : Int → Prop} [DecidablePred c] {a : Int} (h : ¬ c a) : ∀ n : Nat, skG c n a = a := by
  intro n
  cases n with
  | zero => rfl
  | succ n => rw [skG_s, if_neg h]
theorem skG_fix {c : Int → Prop} [DecidablePred c] {L : Int} (h : ∀ a, c a → a < L) : ∀ (n : Nat) (a : Int), L - a ≤ n → ¬ c (skG c n a) := by
  intro n
  induction n with
  | zero => intro a hn q; have := h a q; omega
  | succ n ih =>
    intro a hn
    rw [skG_s]
    split
    · exact ih (a + 1) (by omega)
    · rename_i q; exact q
theorem sg_bl {μ : Mem} {a : Int} (h : bC (sg μ) a) : a < μ 16 1 := (sg_lt (a := a) (by have : sg μ a = 32 := h; omega)).2
theorem sg_dg {μ : Mem} {a : Int} (h : dC (sg μ) a) : a < μ 16 1 := (sg_lt (a := a) (by have := h.1; omega)).2
theorem sg_le {μ : Mem} {a : Int} (h : lC (sg μ) a) : a < μ 16 1 := (sg_lt (a := a) (by have := h.1; omega)).2
theorem nB_nb {μ : Mem} (h : RI μ) : ¬ bC (sg μ) (nB μ) := skG_fix (fun a => sg_bl) 400 _ (by have := h.1; have := h.2.2.1; unfold TOK at *; omega)
theorem nB_sk {μ : Mem} (h : RI μ) : nB (skM μ) = nB μ := by
  have e : sg (skM μ) = sg μ := sg_c (by decide) (by decide)
  have := nB_nb h
  unfold nB at this ⊢
  rw [e, skM_2]
  exact skG_id this 400
/-- both read on from the same place of the same text -/
def PS (c m : Mem) : Prop := sg c = sgm m ∧ nB c = hB m ∧ RI c ∧ MX m
theorem PS_c {c d m : Mem} (h : PS c m) (h1 : sg d = sg c) (h2 : nB d = nB c) (h3 : RI d) : PS d m := ⟨h1.trans h.1, h2.trans h.2.1, h3, h.2.2.2⟩
theorem hB_cg {m n : Mem} (h1 : n 256 18 = m 256 18) (h2 : n 274 = m 274) (h3 : n 256 20 = m 256 20) : hB n = hB m := by unfold hB; rw [sgm_cg h1 h2, h3]
theorem PS_m {c m n : Mem} (h : PS c m) (h1 : n 256 18 = m 256 18) (h2 : n 274 = m 274) (h3 : n 256 20 = m 256 20) (h4 : MX n) : PS c n := ⟨h.1.trans (sgm_cg h1 h2).symm, h.2.1.trans (hB_cg h1 h2 h3).symm, h.2.2.1, h4⟩
theorem cnv_fd {σ : Int → Int} : ∀ (n : Nat) (a v j : Int), skG (dC σ) n a ≤ a + j → 0 ≤ v → (j = 0 ∨ (j = 1 ∧ v ≤ 99) ∨ (j = 2 ∧ v ≤ 9) ∨ (j = 3 ∧ v = 0)) → cnv σ n a v = fdG (dC σ) (nmS σ) n a v := by
  intro n
  induction n with
  | zero => intros; rfl
  | succ n ih =>
    intro a v j h1 h2 h3
    rw [skG_s] at h1
    rw [cnv_s, fdG_s]
    by_cases c : dC σ a
    · rw [if_pos c] at h1
      rw [if_pos c, if_pos c]
      have g := skG_ge (c := dC σ) n (a + 1)
      have c1 := c.1
      have c2 := c.2
      have e1 : min 1000 (v * 10 + σ a - 48) = 10 * v + σ a - 48 := by rw [min_if]; split <;> omega
      have e2 : nmS σ a v = 10 * v + σ a - 48 := by unfold nmS; rw [if_neg (by omega)]
      rw [e1, e2]
      exact ih (a + 1) _ (j - 1) (by omega) (by omega) (by omega)
    · rw [if_neg c, if_neg c]
theorem num_e {c m : Mem} (h : PS c m) : nE c = hE m := by unfold nE hE; rw [h.1, h.2.1]
theorem num_v {c m : Mem} (h : PS c m) (h3 : hE m - hB m ≤ 3) : nV c = hV m := by
  unfold nV hV
  rw [h.1, h.2.1]
  unfold hE at h3
  exact cnv_fd 400 (hB m) 0 3 (by omega) (by decide) (by omega)
theorem num_0 {c m : Mem} (h : PS c m) : nE c = nB c ↔ ¬ dC (sgm m) (hB m) := by
  unfold nE
  rw [h.1, h.2.1]
  constructor
  · intro e q
    rw [show (400 : Nat) = 399 + 1 from rfl, skG_s, if_pos q] at e
    have := skG_ge (c := dC (sgm m)) 399 (hB m + 1)
    omega
  · intro q; exact skG_id q 400
theorem blm_0 {μ : Mem} {k a : Int} (h : μ 64 3 = 0) : blm μ k a = mu (mu μ 64 3 k) 64 4 a := by unfold blm; rw [if_pos h]
theorem blm_n {μ : Mem} {k a : Int} (h : ¬ μ 64 3 = 0) : blm μ k a = μ := by unfold blm; rw [if_neg h]
/-- a number, read by both -/
theorem nM_ok {c m : Mem} (h : PS c m) {l g : Int} (h0 : (tkN m l g).1 = 0) : nM c l g = mu c 64 2 (nE c) ∧ nV c = hV m ∧ PS (nM c l g) (tkN m l g).2 := by
  obtain ⟨t1, t2, t3, t4⟩ := tkN_ok h0
  have e0 := num_e h
  have ev := num_v h (by omega)
  have en : nM c l g = mu c 64 2 (nE c) := by
    unfold nM
    rw [if_neg (fun q => (num_0 h).mp q t1), if_neg (by have := h.2.1; omega)]
  refine ⟨en, ev, ?_, ?_, RI_nM h.2.2.1 l g, MX_tk h.2.2.2 l g⟩
  · rw [sg_nM, h.1, t4]
    exact (sgm_cg (by unfold nmM; rw [mu_j (by decide), mu_j (by decide), mu_j (by decide), heM_j (by decide)]) (by unfold nmM; rw [mu_ne (by decide), mu_ne (by decide), mu_ne (by decide), heM_c (by decide)])).symm
  · have e1 : sgm (tkN m l g).2 = sgm m := by
      rw [t4]; exact sgm_cg (by unfold nmM; rw [mu_j (by decide), mu_j (by decide), mu_j (by decide), heM_j (by decide)]) (by unfold nmM; rw [mu_ne (by decide), mu_ne (by decide), mu_ne (by decide), heM_c (by decide)])
    unfold nB hB
    rw [sg_nM, h.1, e1, en, mu_h, t4, nmM_20, e0]
theorem nM_bad {c m : Mem} (h : PS c m) (hk : c 64 3 = 0) {l g : Int} (h0 : ¬ (tkN m l g).1 = 0) : nM c l g 64 3 = (tkN m l g).1 ∧ nM c l g 64 4 = (tkN m l g).2 256 19 := by
  have e0 := num_e h
  have hk2 : mu c 64 2 (nE c) 64 3 = 0 := by rw [mu_j (by decide)]; exact hk
  by_cases d : dC (sgm m) (hB m)
  · have d2 : 3 < hE m - hB m ∨ ¬ (l ≤ hV m ∧ hV m ≤ g) := by
      by_cases q : 3 < hE m - hB m ∨ ¬ (l ≤ hV m ∧ hV m ≤ g)
      · exact q
      · exact absurd (by rw [tkN_0 d q]) h0
    have e2 : 3 < nE c - nB c ∨ nV c < l ∨ g < nV c := by
      by_cases q : 3 < hE m - hB m
      · exact Or.inl (by have := h.2.1; omega)
      · have := num_v h (by omega)
        omega
    rw [tkN_2 d d2]
    unfold nM
    rw [if_neg (fun q => (num_0 h).mp q d), if_pos e2, blm_0 hk2]
    refine ⟨by rw [mu_j (by decide), mu_h], ?_⟩
    rw [mu_h]; show nB c = mu (nmM m) 256 19 (hB m) 256 19; rw [mu_h]; exact h.2.1
  · rw [tkN_1 d]
    unfold nM
    rw [if_pos ((num_0 h).mpr d), blm_0 hk2]
    refine ⟨by rw [mu_j (by decide), mu_h], ?_⟩
    rw [mu_h]; show nB c = mu (heM m) 256 19 (hB m) 256 19; rw [mu_h]; exact h.2.1
theorem nM_st {c : Mem} (hk : ¬ c 64 3 = 0) {l g : Int} : nM c l g 64 3 = c 64 3 ∧ nM c l g 64 4 = c 64 4 := by
  have hk2 : ¬ mu c 64 2 (nE c) 64 3 = 0 := by rw [mu_j (by decide)]; exact hk
  unfold nM
  rw [blm_n hk2, blm_n hk2, ite_self, ite_self, mu_j (by decide), mu_j (by decide)]
  exact ⟨rfl, rfl⟩
theorem eM_st {c : Mem} (hk : ¬ c 64 3 = 0) : eM c 64 3 = c 64 3 ∧ eM c 64 4 = c 64 4 := by
  have hk2 : ¬ mu c 64 2 (nB c) 64 3 = 0 := by rw [mu_j (by decide)]; exact hk
  unfold eM
  rw [blm_n hk2]
  split
  · rw [mu_j (by decide), mu_j (by decide)]; exact ⟨rfl, rfl⟩
  · rw [mu_j (by decide), mu_j (by decide)]; exact ⟨rfl, rfl⟩
theorem eM_ok {c m : Mem} (h : PS c m) (h0 : sgm m (hB m) = 59) : eM c = mu c 64 2 (nB c + 1) := by
  unfold eM
  rw [if_pos (by rw [h.1, h.2.1]; exact h0)]
theorem eM_bad {c m : Mem} (h : PS c m) (hk : c 64 3 = 0) (h0 : ¬ sgm m (hB m) = 59) : eM c 64 3 = 1 ∧ eM c 64 4 = hB m := by
  have hk2 : mu c 64 2 (nB c) 64 3 = 0 := by rw [mu_j (by decide)]; exact hk
  unfold eM
  rw [if_neg (by rw [h.1, h.2.1]; exact h0), blm_0 hk2]
  exact ⟨by rw [mu_j (by decide), mu_h], by rw [mu_h]; exact h.2.1⟩
/-! words -/
def wl (σ : Int → Int) : Nat → Int → List Int
  | 0, _ => []
  | n + 1, a => if lC σ a then σ a :: wl σ n (a + 1) else []
theorem wl_s {σ : Int → Int} {n : Nat} {a : Int} : wl σ (n + 1) a = if lC σ a then σ a :: wl σ n (a + 1) else [] := rfl
theorem wl_len {σ : Int → Int} : ∀ (n : Nat) (a : Int), skG (lC σ) n a = a + (wl σ n a).length := by
  intro n
  induction n with
  | zero => intro a; show a = a + 0; omega
  | succ n ih =>
    intro a
    rw [skG_s, wl_s]
    split
    · rw [ih (a + 1), List.length_cons]; omega
    · show a = a + 0; omega
theorem wl_get {σ : Int → Int} : ∀ (n : Nat) (a : Int) (i : Nat), i < (wl σ n a).length → (wl σ n a)[i]? = some (σ (a + i)) := by
  intro n
  induction n with
  | zero => intro a i hi; exact absurd hi (Nat.not_lt_zero _)
  | succ n ih =>
    intro a i hi
    rw [wl_s] at hi ⊢
    split at hi
    · rename_i c
      rw [if_pos c]
      cases i with
      | zero => rw [List.getElem?_cons_zero]; congr 2; omega
      | succ i =>
        rw [List.getElem?_cons_succ, ih (a + 1) i (by simpa using hi)]
        congr 2; omega
    · exact absurd hi (Nat.not_lt_zero _)
theorem wl_rg {σ : Int → Int} : ∀ (n : Nat) (a : Int), ∀ x ∈ wl σ n a, 97 ≤ x ∧ x ≤ 122 := by
  intro n
  induction n with
  | zero => intro a x hx; exact absurd hx List.not_mem_nil
  | succ n ih =>
    intro a x hx
    rw [wl_s] at hx
    split at hx
    · rename_i c
      rcases List.mem_cons.mp hx with rfl | q
      · exact c
      · exact ih (a + 1) x q
    · exact absurd hx List.not_mem_nil
def stp (v x : Int) : Int := if 1000000000000 < v then 2000000000000 else 27 * v + x - 96
theorem wl_fd {σ : Int → Int} : ∀ (n : Nat) (a v : Int), fdG (lC σ) (sdS σ) n a v = (wl σ n a).foldl stp v := by
  intro n
  induction n with
  | zero => intros; rfl
  | succ n ih =>
    intro a v
    rw [fdG_s, wl_s]
    split
    · rw [ih, List.foldl_cons]; rfl
    · rfl
def FW (l : List Int) : Int := l.foldl stp 0
theorem FW_sn (l : List Int) (x : Int) : FW (l ++ [x]) = stp (FW l) x := by unfold FW; rw [List.foldl_append]; rfl
theorem sn_of (l : List Int) : l = [] ∨ ∃ l2 x, l = l2 ++ [x] := by
  rcases List.eq_nil_or_concat l with h | ⟨l2, x, h⟩
  · exact Or.inl h
  · exact Or.inr ⟨l2, x, by simpa using h⟩
theorem FW_nn : ∀ (n : Nat) (l : List Int), l.length = n → (∀ x ∈ l, 97 ≤ x ∧ x ≤ 122) → 0 ≤ FW l ∧ (FW l = 0 → l = []) := by
  intro n
  induction n with
  | zero => intro l h _; have : l = [] := List.eq_nil_of_length_eq_zero h
            subst this; exact ⟨by decide, fun _ => rfl⟩
  | succ n ih =>
    intro l h hr
    rcases sn_of l with rfl | ⟨l2, x, rfl⟩
    · exact ⟨by decide, fun _ => rfl⟩
    · have hx := hr x (by simp)
      have i := ih l2 (by simpa using h) (fun y hy => hr y (by simp [hy]))
      rw [FW_sn]
      unfold stp
      refine ⟨by split <;> omega, fun q => ?_⟩
      exfalso
      split at q <;> omega
/-- the last letter of a word by its number -/
theorem FW_inv {l : List Int} (hr : ∀ x ∈ l, 97 ≤ x ∧ x ≤ 122) {T : Int} (hT : 0 < T ∧ T ≤ 1000000000000) (h : FW l = T) : ∃ l2, l = l2 ++ [96 + T % 27] ∧ FW l2 = T / 27 ∧ ∀ x ∈ l2, 97 ≤ x ∧ x ≤ 122 := by
  rcases sn_of l with rfl | ⟨l2, x, rfl⟩
  · have : FW [] = 0 := rfl
    omega
  · have hx := hr x (by simp)
    have hr2 : ∀ y ∈ l2, 97 ≤ y ∧ y ≤ 122 := fun y hy => hr y (by simp [hy])
    have i := (FW_nn l2.length l2 rfl hr2).1
    rw [FW_sn] at h
    unfold stp at h
    split at h
    · omega
    · exact ⟨l2, by rw [show x = 96 + T % 27 by omega], by omega, hr2⟩
theorem FW_0 {l : List Int} (hr : ∀ x ∈ l, 97 ≤ x ∧ x ≤ 122) (h : FW l = 0) : l = [] := (FW_nn l.length l rfl hr).2 h
theorem w0_iff {l : List Int} (hr : ∀ x ∈ l, 97 ≤ x ∧ x ≤ 122) : FW l = 235981828 ↔ l = [112, 108, 97, 99, 101, 115] := by
  constructor
  · intro h
    obtain ⟨l1, rfl, h, hr⟩ := FW_inv hr (by decide) h
    obtain ⟨l2, rfl, h, hr⟩ := FW_inv hr (by decide) h
    obtain ⟨l3, rfl, h, hr⟩ := FW_inv hr (by decide) h
    obtain ⟨l4, rfl, h, hr⟩ := FW_inv hr (by decide) h
    obtain ⟨l5, rfl, h, hr⟩ := FW_inv hr (by decide) h
    obtain ⟨l6, rfl, h, hr⟩ := FW_inv hr (by decide) h
    rw [FW_0 hr h]
    rfl
  · rintro rfl; decide
theorem w1_iff {l : List Int} (hr : ∀ x ∈ l, 97 ≤ x ∧ x ≤ 122) : FW l = 365260 ↔ l = [114, 111, 97, 100] := by
  constructor
  · intro h
    obtain ⟨l1, rfl, h, hr⟩ := FW_inv hr (by decide) h
    obtain ⟨l2, rfl, h, hr⟩ := FW_inv hr (by decide) h
    obtain ⟨l3, rfl, h, hr⟩ := FW_inv hr (by decide) h
    obtain ⟨l4, rfl, h, hr⟩ := FW_inv hr (by decide) h
    rw [FW_0 hr h]
    rfl
  · rintro rfl; decide
theorem w2_iff {l : List Int} (hr : ∀ x ∈ l, 97 ≤ x ∧ x ≤ 122) : FW l = 148870 ↔ l = [103, 111, 101, 115] := by
  constructor
  · intro h
    obtain ⟨l1, rfl, h, hr⟩ := FW_inv hr (by decide) h
    obtain ⟨l2, rfl, h, hr⟩ := FW_inv hr (by decide) h
    obtain ⟨l3, rfl, h, hr⟩ := FW_inv hr (by decide) h
    obtain ⟨l4, rfl, h, hr⟩ := FW_inv hr (by decide) h
    rw [FW_0 hr h]
    rfl
  · rintro rfl; decide
def wds (j : Nat) : List Int := ([[112, 108, 97, 99, 101, 115], [114, 111, 97, 100], [103, 111, 101, 115]] : List (List Int)).getD j []
theorem wds_ok : ∀ j, j < 3 → (wds j).length = slN j ∧ ∀ i, i < slN j → (wds j)[i]? = some (wB j i) := by
  intro j hj
  rcases (show j = 0 ∨ j = 1 ∨ j = 2 by omega) with rfl | rfl | rfl <;> decide +kernel
theorem isWd_iff {c : Mem} {j : Nat} (hj : j < 3) : isWd (wM c) (c 64 2) j ↔ wl (sg c) 400 (c 64 2) = wds j := by
  have e1 : sg (wM c) = sg c := sg_c (by decide) (by decide)
  have e2 : wM c 64 2 = c 64 2 + (wl (sg c) 400 (c 64 2)).length := by unfold wM; rw [mu_h]; unfold wE; rw [wl_len]
  obtain ⟨d1, d2⟩ := wds_ok j hj
  unfold isWd
  rw [e1, e2]
  constructor
  · rintro ⟨h1, h2⟩
    have hl : (wl (sg c) 400 (c 64 2)).length = slN j := by omega
    apply List.ext_getElem?
    intro i
    by_cases q : i < slN j
    · rw [wl_get 400 (c 64 2) i (by omega), d2 i q, h2 i q]
    · rw [List.getElem?_eq_none (by omega), List.getElem?_eq_none (by omega)]
  · intro h
    refine ⟨by rw [h, d1]; omega, fun i hi => ?_⟩
    have a := wl_get (σ := sg c) 400 (c 64 2) i (by rw [h, d1]; exact hi)
    rw [h, d2 i hi] at a
    exact (Option.some.inj a).symm
/-- which word it is -/
theorem kd_iff {c m : Mem} (h : sg c = sgm m) (h2 : c 64 2 = hB m) : (isWd (wM c) (c 64 2) 0 ↔ kdF m = 0) ∧ (isWd (wM c) (c 64 2) 1 ↔ kdF m = 1) ∧ (isWd (wM c) (c 64 2) 2 ↔ kdF m = 2) ∧ wE c = hW m := by
  have hr := wl_rg (σ := sg c) 400 (c 64 2)
  have e : hS m = FW (wl (sg c) 400 (c 64 2)) := by unfold hS; rw [← h, ← h2, wl_fd]; rfl
  rw [isWd_iff (by decide), isWd_iff (by decide), isWd_iff (by decide)]
  unfold kdF
  rw [e]
  have q0 := w0_iff hr
  have q1 := w1_iff hr
  have q2 := w2_iff hr
  refine ⟨?_, ?_, ?_, by unfold wE hW; rw [h, h2]⟩
  · show _ = [112, 108, 97, 99, 101, 115] ↔ _
    rw [← q0]
    constructor
    · intro z; rw [if_pos z]
    · intro z
      by_cases y : FW (wl (sg c) 400 (c 64 2)) = 235981828
      · exact y
      · rw [if_neg y] at z; split at z <;> (try split at z) <;> omega
  · show _ = [114, 111, 97, 100] ↔ _
    rw [← q1]
    constructor
    · intro z; rw [if_neg (by omega), if_pos z]
    · intro z
      by_cases y : FW (wl (sg c) 400 (c 64 2)) = 365260
      · exact y
      · rw [if_neg y] at z; split at z <;> (try split at z) <;> omega
  · show _ = [103, 111, 101, 115] ↔ _
    rw [← q2]
    constructor
    · intro z; rw [if_neg (by omega), if_neg (by omega), if_pos z]
    · intro z
      by_cases y : FW (wl (sg c) 400 (c 64 2)) = 148870
      · exact y
      · rw [if_neg y] at z; split at z <;> (try split at z) <;> omega

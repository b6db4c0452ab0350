theorem MX_mu {μ : Mem} (h : MX μ) {j : Nat} {v : Int} (h1 : j ≠ 18) (h2 : j ≠ 20) : MX (mu μ 256 j v) := by
  obtain ⟨x1, x2, x3⟩ := h
  exact ⟨by rw [mu_j (by omega)]; exact x1, by rw [mu_ne (by decide)]; exact x2, by rw [mu_j (by omega), mu_j (by omega)]; exact x3⟩
theorem MX_20 {μ : Mem} (h : MX μ) {v : Int} (hv : 0 ≤ v ∧ v ≤ μ 256 18) : MX (mu μ 256 20 v) := by
  obtain ⟨x1, x2, x3⟩ := h
  exact ⟨by rw [mu_j (by omega)]; exact x1, by rw [mu_ne (by decide)]; exact x2, by rw [mu_h, mu_j (by omega)]; exact hv⟩
theorem MX_c {μ : Mem} (h : MX μ) {c j : Nat} {v : Int} (h1 : c ≠ 256) (h2 : c ≠ 274) : MX (mu μ c j v) := by
  obtain ⟨x1, x2, x3⟩ := h
  exact ⟨by rw [mu_c (by omega)]; exact x1, by rw [mu_ne (by omega)]; exact x2, by rw [mu_c (by omega), mu_c (by omega)]; exact x3⟩
theorem MX_nm {μ : Mem} (h : MX μ) : MX (nmM μ) := by
  have g1 := hE_rg h
  have g3 := hB_rg h
  have x3 := h.2.2
  refine MX_20 (MX_mu (MX_mu (MX_he h) (by decide) (by decide)) (by decide) (by decide)) ?_
  rw [mu_j (by decide), mu_j (by decide), heM_j (by decide)]
  omega
theorem MX_tk {μ : Mem} (h : MX μ) (l g : Int) : MX (tkN μ l g).2 := by
  unfold tkN
  split
  · exact MX_mu (MX_he h) (by decide) (by decide)
  · split
    · exact MX_mu (MX_nm h) (by decide) (by decide)
    · exact MX_nm h
/-- the fields that reading a number leaves as they are -/
theorem tkN_j {μ : Mem} {l g : Int} {j : Nat} (h : j ≠ 19 ∧ j ≠ 20 ∧ j ≠ 23 ∧ j ≠ 24) : (tkN μ l g).2 256 j = μ 256 j := by
  obtain ⟨h1, h2, h3, h4⟩ := h
  have e : nmM μ 256 j = μ 256 j := by
    unfold nmM
    rw [mu_j h2, mu_j h3, mu_j h4, heM_j h2]
  unfold tkN
  split
  · exact (mu_j h1).trans (heM_j h2)
  · split
    · exact (mu_j h1).trans e
    · exact e
theorem tkN_c {μ : Mem} {l g : Int} {c : Nat} (h : c ≠ 256) : (tkN μ l g).2 c = μ c := by
  have e : nmM μ c = μ c := by
    unfold nmM
    rw [mu_ne h, mu_ne h, mu_ne h, heM_c h]
  unfold tkN
  split
  · exact (mu_ne h).trans (heM_c h)
  · split
    · exact (mu_ne h).trans e
    · exact e
theorem tkN_f (μ : Mem) (l g : Int) : (tkN μ l g).1 = 0 ∨ (tkN μ l g).1 = 1 ∨ (tkN μ l g).1 = 2 := by
  unfold tkN
  split
  · exact Or.inr (Or.inl rfl)
  · split
    · exact Or.inr (Or.inr rfl)
    · exact Or.inl rfl
theorem tkN_ok {μ : Mem} {l g : Int} (h : (tkN μ l g).1 = 0) : dC (sgm μ) (hB μ) ∧ ¬ 3 < hE μ - hB μ ∧ (l ≤ hV μ ∧ hV μ ≤ g) ∧ (tkN μ l g).2 = nmM μ := by
  unfold tkN at h ⊢
  split at h
  · cases h
  · rename_i h1
    split at h
    · cases h
    · rename_i h2
      rw [if_neg h1, if_neg h2]
      refine ⟨Decidable.not_not.mp h1, ?_, ?_, rfl⟩
      · exact fun q => h2 (Or.inl q)
      · exact Decidable.byContradiction (fun q => h2 (Or.inr q))
theorem nmM_23 {μ : Mem} : nmM μ 256 23 = hV μ := by unfold nmM; rw [mu_j (by decide), mu_h]
theorem nmM_20 {μ : Mem} : nmM μ 256 20 = hE μ := by unfold nmM; rw [mu_h]
theorem nmM_24 {μ : Mem} : nmM μ 256 24 = hB μ := by unfold nmM; rw [mu_j (by decide), mu_j (by decide), mu_h]
theorem MX_in {μ : Mem} (h : MX μ) {c : Nat} (hc : 284 ≤ c) (k l g : Int) : MX (inTo μ c k l g).2 := MX_c (MX_tk h l g) (by omega) (by omega)
theorem inTo_j {μ : Mem} {c : Nat} (hc : 284 ≤ c) {k l g : Int} {j : Nat} (h : j ≠ 19 ∧ j ≠ 20 ∧ j ≠ 23 ∧ j ≠ 24) : (inTo μ c k l g).2 256 j = μ 256 j := by
  unfold inTo
  dsimp only
  rw [mu_c (by omega), tkN_j h]
theorem inTo_c {μ : Mem} {c d : Nat} {k l g : Int} (h : d ≠ 256) (hd : d ≠ c) : (inTo μ c k l g).2 d = μ d := by
  unfold inTo
  dsimp only
  rw [mu_ne hd, tkN_c h]
theorem inTo_e {μ : Mem} {c : Nat} {k l g : Int} : (inTo μ c k l g).2 c k.toNat = (tkN μ l g).2 256 23 := mu_h
theorem inTo_n {μ : Mem} {c : Nat} (hc : c ≠ 256) {k l g : Int} {i : Nat} (hi : i ≠ k.toNat) : (inTo μ c k l g).2 c i = μ c i := by
  unfold inTo
  dsimp only
  rw [mu_j hi, tkN_c hc]
theorem inTo_f (μ : Mem) (c : Nat) (k l g : Int) : (inTo μ c k l g).1 = 0 ∨ (inTo μ c k l g).1 = 1 ∨ (inTo μ c k l g).1 = 2 := tkN_f μ l g
theorem inTo_ok {μ : Mem} {c : Nat} {k l g : Int} (h : (inTo μ c k l g).1 = 0) : (l ≤ hV μ ∧ hV μ ≤ g) ∧ (inTo μ c k l g).2 c k.toNat = hV μ := by
  obtain ⟨h1, h2, h3, h4⟩ := tkN_ok (μ := μ) (l := l) (g := g) h
  exact ⟨h3, by rw [inTo_e, h4, nmM_23]⟩
theorem inTo_24 {μ : Mem} {c : Nat} (hc : 284 ≤ c) {k l g : Int} (h : (inTo μ c k l g).1 = 0) : (inTo μ c k l g).2 256 24 = hB μ := by
  obtain ⟨h1, h2, h3, h4⟩ := tkN_ok (μ := μ) (l := l) (g := g) h
  unfold inTo
  dsimp only
  rw [mu_c (by omega), h4, nmM_24]
/-- what holds while the reference reads -/
def MPI (μ : Mem) : Prop := MX μ ∧ RW μ ∧ (0 ≤ μ 256 25 ∧ μ 256 25 ≤ 9) ∧ (0 ≤ μ 256 30 ∧ μ 256 30 ≤ 20)
def tR1 (μ : Mem) : Int × Mem := inTo μ 284 (μ 256 26) 0 (μ 256 25 - 1)
def tR2 (μ : Mem) : Int × Mem := if 0 < (tR1 μ).1 then tR1 μ else inTo (tR1 μ).2 285 (μ 256 26) 0 ((tR1 μ).2 256 25 - 1)
def tT1 (μ : Mem) : Int × Mem := inTo μ 288 (μ 256 30) 0 (μ 256 25 - 1)
def tT2 (μ : Mem) : Int × Mem := if 0 < (tT1 μ).1 then tT1 μ else inTo (tT1 μ).2 289 (μ 256 30) 0 ((tT1 μ).2 256 25 - 1)
abbrev okr (m : Mem) (a b : Int) (r : Nat) : Prop := ¬ (m 284 r = a ∧ m 285 r = b) ∧ ¬ (m 284 r = b ∧ m 285 r = a)
abbrev mayR (m : Mem) (a b k : Int) : Prop := (¬ a = b ∧ rAt m a < 5 ∧ rAt m b < 5) ∧ ∀ r : Nat, r < k.toNat → okr m a b r
theorem okr_s {m : Mem} {a b r : Int} (hr : 0 ≤ r) : (∀ i : Nat, i < (r + 1).toNat → okr m a b i) ↔ (∀ i : Nat, i < r.toNat → okr m a b i) ∧ okr m a b r.toNat := by
  constructor
  · intro q
    exact ⟨fun i hi => q i (by omega), q _ (by omega)⟩
  · intro q i hi
    by_cases e : i = r.toNat
    · rw [e]; exact q.2
    · exact q.1 i (by omega)
def tR3 (μ m : Mem) : Int × Mem := if mayR m (m 284 (μ 256 26).toNat) (m 285 (μ 256 26).toNat) (μ 256 26) then ((inTo m 286 (μ 256 26) 1 99).1, mu (inTo m 286 (μ 256 26) 1 99).2 256 26 ((inTo m 286 (μ 256 26) 1 99).2 256 26 + 1)) else (4, mu m 256 19 (m 256 24))
def tkR (μ : Mem) : Int × Mem := if 0 < (tR2 μ).1 then tR2 μ else tR3 μ (tR2 μ).2
def tT3 (μ m : Mem) : Int × Mem := if m 288 (μ 256 30).toNat = m 289 (μ 256 30).toNat then (4, mu m 256 19 (m 256 24)) else inTo (mu m 256 30 (m 256 30 + 1)) 290 (μ 256 30) 1 99
def tkT (μ : Mem) : Int × Mem := if 0 < (tT2 μ).1 then tT2 μ else tT3 μ (tT2 μ).2
theorem RW_in {μ : Mem} (h : RW μ) {c : Nat} (hc : c = 284 ∨ c = 285 ∨ 286 ≤ c) {l g : Int} : RW (inTo μ c (μ 256 26) l g).2 := by
  obtain ⟨h1, h2⟩ := h
  have e : (inTo μ c (μ 256 26) l g).2 256 26 = μ 256 26 := inTo_j (by omega) (by decide)
  refine ⟨by rw [e]; exact h1, fun r hr => ?_⟩
  rw [e] at hr
  have h3 := h2 r hr
  have e1 : (inTo μ c (μ 256 26) l g).2 284 r = μ 284 r := by
    by_cases e2 : (284 : Nat) = c
    · subst e2; exact inTo_n (by decide) (by omega)
    · rw [inTo_c (by decide) e2]
  have e3 : (inTo μ c (μ 256 26) l g).2 285 r = μ 285 r := by
    by_cases e2 : (285 : Nat) = c
    · subst e2; exact inTo_n (by decide) (by omega)
    · rw [inTo_c (by decide) e2]
  rw [e1, e3]; exact h3
theorem tR1_26 {μ : Mem} : (tR1 μ).2 256 26 = μ 256 26 := inTo_j (by decide) (by decide)
theorem tR1_25 {μ : Mem} : (tR1 μ).2 256 25 = μ 256 25 := inTo_j (by decide) (by decide)
theorem tT1_30 {μ : Mem} : (tT1 μ).2 256 30 = μ 256 30 := inTo_j (by decide) (by decide)
theorem tT1_25 {μ : Mem} : (tT1 μ).2 256 25 = μ 256 25 := inTo_j (by decide) (by decide)
theorem tR2_0 {μ : Mem} (h : ¬ 0 < (tR1 μ).1) : tR2 μ = inTo (tR1 μ).2 285 (μ 256 26) 0 ((tR1 μ).2 256 25 - 1) := if_neg h
theorem tT2_0 {μ : Mem} (h : ¬ 0 < (tT1 μ).1) : tT2 μ = inTo (tT1 μ).2 289 (μ 256 30) 0 ((tT1 μ).2 256 25 - 1) := if_neg h
theorem tR2_r {μ : Mem} (h : MPI μ) : MX (tR2 μ).2 ∧ RW (tR2 μ).2 ∧ (tR2 μ).2 256 26 = μ 256 26 ∧ ((tR2 μ).1 = 0 ∨ (tR2 μ).1 = 1 ∨ (tR2 μ).1 = 2) := by
  obtain ⟨h1, h2, h3, h4⟩ := h
  by_cases q : 0 < (tR1 μ).1
  · have e : tR2 μ = tR1 μ := if_pos q
    rw [e]
    exact ⟨MX_in h1 (by decide) _ _ _, RW_in h2 (by decide), tR1_26, inTo_f _ _ _ _ _⟩
  · rw [tR2_0 q]
    refine ⟨MX_in (MX_in h1 (by decide) _ _ _) (by decide) _ _ _, ?_, ?_, inTo_f _ _ _ _ _⟩
    · have := RW_in (RW_in h2 (c := 284) (by decide) (l := 0) (g := μ 256 25 - 1)) (c := 285) (by decide) (l := 0) (g := (tR1 μ).2 256 25 - 1)
      rw [show (inTo μ 284 (μ 256 26) 0 (μ 256 25 - 1)).2 256 26 = μ 256 26 from tR1_26] at this
      exact this
    · rw [inTo_j (by decide) (by decide), tR1_26]
theorem tR2_ok {μ : Mem} (h : ¬ 0 < (tR2 μ).1) : ((0 ≤ hV μ ∧ hV μ ≤ μ 256 25 - 1) ∧ (tR2 μ).2 284 (μ 256 26).toNat = hV μ) ∧ ((0 ≤ hV (tR1 μ).2 ∧ hV (tR1 μ).2 ≤ μ 256 25 - 1) ∧ (tR2 μ).2 285 (μ 256 26).toNat = hV (tR1 μ).2) ∧ (tR1 μ).1 = 0 ∧ (tR2 μ).1 = 0 ∧ (tR2 μ).2 256 24 = hB (tR1 μ).2 := by
  by_cases q : 0 < (tR1 μ).1
  · rw [show tR2 μ = tR1 μ from if_pos q] at h
    exact absurd q h
  · have f1 : (tR1 μ).1 = 0 := by have := inTo_f μ 284 (μ 256 26) 0 (μ 256 25 - 1); unfold tR1 at q ⊢; omega
    have o1 := inTo_ok (μ := μ) (c := 284) (k := μ 256 26) (l := 0) (g := μ 256 25 - 1) f1
    rw [tR2_0 q] at h ⊢
    have f2 := inTo_f (tR1 μ).2 285 (μ 256 26) 0 ((tR1 μ).2 256 25 - 1)
    have f3 : (inTo (tR1 μ).2 285 (μ 256 26) 0 ((tR1 μ).2 256 25 - 1)).1 = 0 := by omega
    have o2 := inTo_ok (μ := (tR1 μ).2) (c := 285) (k := μ 256 26) (l := 0) (g := (tR1 μ).2 256 25 - 1) f3
    rw [tR1_25] at o2
    refine ⟨⟨o1.1, ?_⟩, ?_, f1, f3, inTo_24 (by decide) f3⟩
    · rw [inTo_c (by decide) (by decide)]; exact o1.2
    · rw [tR1_25]; exact o2
theorem tT2_r {μ : Mem} (h : MPI μ) : MX (tT2 μ).2 ∧ (tT2 μ).2 256 30 = μ 256 30 ∧ ((tT2 μ).1 = 0 ∨ (tT2 μ).1 = 1 ∨ (tT2 μ).1 = 2) := by
  obtain ⟨h1, h2, h3, h4⟩ := h
  by_cases q : 0 < (tT1 μ).1
  · have e : tT2 μ = tT1 μ := if_pos q
    rw [e]
    exact ⟨MX_in h1 (by decide) _ _ _, tT1_30, inTo_f _ _ _ _ _⟩
  · rw [tT2_0 q]
    refine ⟨MX_in (MX_in h1 (by decide) _ _ _) (by decide) _ _ _, ?_, inTo_f _ _ _ _ _⟩
    · rw [inTo_j (by decide) (by decide), tT1_30]
theorem tT2_ok {μ : Mem} (h : ¬ 0 < (tT2 μ).1) : ((0 ≤ hV μ ∧ hV μ ≤ μ 256 25 - 1) ∧ (tT2 μ).2 288 (μ 256 30).toNat = hV μ) ∧ ((0 ≤ hV (tT1 μ).2 ∧ hV (tT1 μ).2 ≤ μ 256 25 - 1) ∧ (tT2 μ).2 289 (μ 256 30).toNat = hV (tT1 μ).2) ∧ (tT1 μ).1 = 0 ∧ (tT2 μ).1 = 0 ∧ (tT2 μ).2 256 24 = hB (tT1 μ).2 := by
  by_cases q : 0 < (tT1 μ).1
  · rw [show tT2 μ = tT1 μ from if_pos q] at h
    exact absurd q h
  · have f1 : (tT1 μ).1 = 0 := by have := inTo_f μ 288 (μ 256 30) 0 (μ 256 25 - 1); unfold tT1 at q ⊢; omega
    have o1 := inTo_ok (μ := μ) (c := 288) (k := μ 256 30) (l := 0) (g := μ 256 25 - 1) f1
    rw [tT2_0 q] at h ⊢
    have f2 := inTo_f (tT1 μ).2 289 (μ 256 30) 0 ((tT1 μ).2 256 25 - 1)
    have f3 : (inTo (tT1 μ).2 289 (μ 256 30) 0 ((tT1 μ).2 256 25 - 1)).1 = 0 := by omega
    have o2 := inTo_ok (μ := (tT1 μ).2) (c := 289) (k := μ 256 30) (l := 0) (g := (tT1 μ).2 256 25 - 1) f3
    rw [tT1_25] at o2
    refine ⟨⟨o1.1, ?_⟩, ?_, f1, f3, inTo_24 (by decide) f3⟩
    · rw [inTo_c (by decide) (by decide)]; exact o1.2
    · rw [tT1_25]; exact o2
theorem r_t1 {μ : Mem} (h : MPI μ) (hk : μ 256 26 < 14) : SP mX12_into [vr 256, vr 284, vi (μ 256 26), vi 0, vi (μ 256 25 - 1)] μ (fun w m => w = vi (tR1 μ).1 ∧ m = (tR1 μ).2) := r_into h.1 zk_284 (by decide) (by have := h.2.1.1; omega) (by decide) (by have := h.2.2.1; omega)
theorem r_t2 {μ : Mem} (h : MPI μ) (hk : μ 256 26 < 14) (h0 : ¬ 0 < (tR1 μ).1) : SP mX12_into [vr 256, vr 285, vi (μ 256 26), vi 0, vi ((tR1 μ).2 256 25 - 1)] (tR1 μ).2 (fun w m => w = vi (tR2 μ).1 ∧ m = (tR2 μ).2) := by
  rw [tR2_0 h0]
  exact r_into (MX_in h.1 (by decide) _ _ _) zk_285 (by decide) (by have := h.2.1.1; omega) (by decide) (by rw [tR1_25]; have := h.2.2.1; omega)
theorem r_t3 {μ : Mem} (h : MPI μ) (hk : μ 256 30 < 20) : SP mX12_into [vr 256, vr 288, vi (μ 256 30), vi 0, vi (μ 256 25 - 1)] μ (fun w m => w = vi (tT1 μ).1 ∧ m = (tT1 μ).2) := r_into h.1 zk_288 (by decide) (by have := h.2.2.2; omega) (by decide) (by have := h.2.2.1; omega)
theorem r_t4 {μ : Mem} (h : MPI μ) (hk : μ 256 30 < 20) (h0 : ¬ 0 < (tT1 μ).1) : SP mX12_into [vr 256, vr 289, vi (μ 256 30), vi 0, vi ((tT1 μ).2 256 25 - 1)] (tT1 μ).2 (fun w m => w = vi (tT2 μ).1 ∧ m = (tT2 μ).2) := by
  rw [tT2_0 h0]
  exact r_into (MX_in h.1 (by decide) _ _ _) zk_289 (by decide) (by have := h.2.2.2; omega) (by decide) (by rw [tT1_25]; have := h.2.2.1; omega)

section
variable {X : ZX}
set_option maxRecDepth 20000 in
theorem l_may {m : Mem} (hw : RW m) {a b k f : Int} (hk : k = m 256 26) (ha : inR a) (hb : inR b) {B : Prop} (hK : ∀ c r, (c = 0 ∨ c = 1) → (c = 1 ↔ B ∧ ∀ i : Nat, i < k.toNat → okr m a b i) → V X mX12_takeRoad 173 [vr 256, vi k, vi f, vi a, vi b, vi c, vi r] [] m) : ∀ (n : Nat) (c r : Int), (r + n = k) → (0 ≤ r) → (c = 0 ∨ c = 1) → (c = 1 ↔ B ∧ ∀ i : Nat, i < r.toNat → okr m a b i) → V X mX12_takeRoad 103 [vr 256, vi k, vi f, vi a, vi b, vi c, vi r] [] m := by
  intro n
  induction n with
  | zero =>
    intro c r h1 h0 hc hm
    have k1 := hw.1
    refine V_iload (pc := 103) dX12_takeRoad_103 rfl ?_
    refine V_iloadn (pc := 105) dX12_takeRoad_105 rfl ?_
    refine V_icmp_ge (pc := 106) (tgt := 173) dX12_takeRoad_106 (by decide) (by omega) (by omega) (fun h106 => ?_) (fun h106 => ?_)
    · have e : r = k := by omega
      rw [e] at hm ⊢
      exact hK c k hc hm
    · exfalso; omega
  | succ n ih =>
    intro c r h1 h0 hc hm
    have k1 := hw.1
    have kk := hw.2 r.toNat (by omega)
    refine V_iload (pc := 103) dX12_takeRoad_103 rfl ?_
    refine V_iloadn (pc := 105) dX12_takeRoad_105 rfl ?_
    refine V_icmp_ge (pc := 106) (tgt := 173) dX12_takeRoad_106 (by decide) (by omega) (by omega) (fun h106 => ?_) (fun h106 => ?_)
    · exfalso; omega
    · refine V_iload (pc := 109) dX12_takeRoad_109 rfl ?_
      refine V_if_eq (pc := 111) (tgt := 164) dX12_takeRoad_111 (by decide) (by omega) (fun h111 => ?_) (fun h111 => ?_)
      · refine V_iconst (pc := 164) dX12_takeRoad_164 ?_
        refine V_istore_5 (pc := 165) dX12_takeRoad_165 (by decide) rfl ?_
        refine V_iinc_6 (pc := 167) dX12_takeRoad_167 (by decide) rfl ?_
        refine V_goto (pc := 170) (tgt := 103) dX12_takeRoad_170 (by decide) ?_
        first
          | exact ih _ (r + 1) (by omega) (by omega) (Or.inr rfl) (iff_of_true rfl ⟨(hm.mp (by omega)).1, (okr_s h0).mpr ⟨(hm.mp (by omega)).2, ⟨fun q => by omega, fun q => by omega⟩⟩⟩)
          | exact ih _ (r + 1) (by omega) (by omega) (Or.inl rfl) (iff_of_false (by decide) (fun q => by have q2 := (okr_s h0).mp q.2; have q3 := q2.2; have q4 := hm.mpr ⟨q.1, q2.1⟩; omega))
      · refine V_aloadn (pc := 114) dX12_takeRoad_114 rfl ?_
        refine V_getr (pc := 115) dX12_takeRoad_115 fX12_56 zk_256 zr_256_27 ?_
        refine V_iload (pc := 118) dX12_takeRoad_118 rfl ?_
        refine V_iald (pc := 120) dX12_takeRoad_120 zk_284 (by omega) (by omega) (by decide) ?_
        refine V_iloadn (pc := 121) dX12_takeRoad_121 rfl ?_
        refine V_icmp_ne (pc := 122) (tgt := 137) dX12_takeRoad_122 (by decide) (by omega) (by omega) (fun h122 => ?_) (fun h122 => ?_)
        · refine V_aloadn (pc := 137) dX12_takeRoad_137 rfl ?_
          refine V_getr (pc := 138) dX12_takeRoad_138 fX12_56 zk_256 zr_256_27 ?_
          refine V_iload (pc := 141) dX12_takeRoad_141 rfl ?_
          refine V_iald (pc := 143) dX12_takeRoad_143 zk_284 (by omega) (by omega) (by decide) ?_
          refine V_iload (pc := 144) dX12_takeRoad_144 rfl ?_
          refine V_icmp_ne (pc := 146) (tgt := 160) dX12_takeRoad_146 (by decide) (by omega) (by omega) (fun h146 => ?_) (fun h146 => ?_)
          · refine V_iconst (pc := 160) dX12_takeRoad_160 ?_
            refine V_goto (pc := 161) (tgt := 165) dX12_takeRoad_161 (by decide) ?_
            refine V_istore_5 (pc := 165) dX12_takeRoad_165 (by decide) rfl ?_
            refine V_iinc_6 (pc := 167) dX12_takeRoad_167 (by decide) rfl ?_
            refine V_goto (pc := 170) (tgt := 103) dX12_takeRoad_170 (by decide) ?_
            first
              | exact ih _ (r + 1) (by omega) (by omega) (Or.inr rfl) (iff_of_true rfl ⟨(hm.mp (by omega)).1, (okr_s h0).mpr ⟨(hm.mp (by omega)).2, ⟨fun q => by omega, fun q => by omega⟩⟩⟩)
              | exact ih _ (r + 1) (by omega) (by omega) (Or.inl rfl) (iff_of_false (by decide) (fun q => by have q2 := (okr_s h0).mp q.2; have q3 := q2.2; have q4 := hm.mpr ⟨q.1, q2.1⟩; omega))
          · refine V_aloadn (pc := 149) dX12_takeRoad_149 rfl ?_
            refine V_getr (pc := 150) dX12_takeRoad_150 fX12_59 zk_256 zr_256_28 ?_
            refine V_iload (pc := 153) dX12_takeRoad_153 rfl ?_
            refine V_iald (pc := 155) dX12_takeRoad_155 zk_285 (by omega) (by omega) (by decide) ?_
            refine V_iloadn (pc := 156) dX12_takeRoad_156 rfl ?_
            refine V_icmp_eq (pc := 157) (tgt := 164) dX12_takeRoad_157 (by decide) (by omega) (by omega) (fun h157 => ?_) (fun h157 => ?_)
            · refine V_iconst (pc := 164) dX12_takeRoad_164 ?_
              refine V_istore_5 (pc := 165) dX12_takeRoad_165 (by decide) rfl ?_
              refine V_iinc_6 (pc := 167) dX12_takeRoad_167 (by decide) rfl ?_
              refine V_goto (pc := 170) (tgt := 103) dX12_takeRoad_170 (by decide) ?_
              first
                | exact ih _ (r + 1) (by omega) (by omega) (Or.inr rfl) (iff_of_true rfl ⟨(hm.mp (by omega)).1, (okr_s h0).mpr ⟨(hm.mp (by omega)).2, ⟨fun q => by omega, fun q => by omega⟩⟩⟩)
                | exact ih _ (r + 1) (by omega) (by omega) (Or.inl rfl) (iff_of_false (by decide) (fun q => by have q2 := (okr_s h0).mp q.2; have q3 := q2.2; have q4 := hm.mpr ⟨q.1, q2.1⟩; omega))
            · refine V_iconst (pc := 160) dX12_takeRoad_160 ?_
              refine V_goto (pc := 161) (tgt := 165) dX12_takeRoad_161 (by decide) ?_
              refine V_istore_5 (pc := 165) dX12_takeRoad_165 (by decide) rfl ?_
              refine V_iinc_6 (pc := 167) dX12_takeRoad_167 (by decide) rfl ?_
              refine V_goto (pc := 170) (tgt := 103) dX12_takeRoad_170 (by decide) ?_
              first
                | exact ih _ (r + 1) (by omega) (by omega) (Or.inr rfl) (iff_of_true rfl ⟨(hm.mp (by omega)).1, (okr_s h0).mpr ⟨(hm.mp (by omega)).2, ⟨fun q => by omega, fun q => by omega⟩⟩⟩)
                | exact ih _ (r + 1) (by omega) (by omega) (Or.inl rfl) (iff_of_false (by decide) (fun q => by have q2 := (okr_s h0).mp q.2; have q3 := q2.2; have q4 := hm.mpr ⟨q.1, q2.1⟩; omega))
        · refine V_aloadn (pc := 125) dX12_takeRoad_125 rfl ?_
          refine V_getr (pc := 126) dX12_takeRoad_126 fX12_59 zk_256 zr_256_28 ?_
          refine V_iload (pc := 129) dX12_takeRoad_129 rfl ?_
          refine V_iald (pc := 131) dX12_takeRoad_131 zk_285 (by omega) (by omega) (by decide) ?_
          refine V_iload (pc := 132) dX12_takeRoad_132 rfl ?_
          refine V_icmp_eq (pc := 134) (tgt := 164) dX12_takeRoad_134 (by decide) (by omega) (by omega) (fun h134 => ?_) (fun h134 => ?_)
          · refine V_iconst (pc := 164) dX12_takeRoad_164 ?_
            refine V_istore_5 (pc := 165) dX12_takeRoad_165 (by decide) rfl ?_
            refine V_iinc_6 (pc := 167) dX12_takeRoad_167 (by decide) rfl ?_
            refine V_goto (pc := 170) (tgt := 103) dX12_takeRoad_170 (by decide) ?_
            first
              | exact ih _ (r + 1) (by omega) (by omega) (Or.inr rfl) (iff_of_true rfl ⟨(hm.mp (by omega)).1, (okr_s h0).mpr ⟨(hm.mp (by omega)).2, ⟨fun q => by omega, fun q => by omega⟩⟩⟩)
              | exact ih _ (r + 1) (by omega) (by omega) (Or.inl rfl) (iff_of_false (by decide) (fun q => by have q2 := (okr_s h0).mp q.2; have q3 := q2.2; have q4 := hm.mpr ⟨q.1, q2.1⟩; omega))
          · refine V_aloadn (pc := 137) dX12_takeRoad_137 rfl ?_
            refine V_getr (pc := 138) dX12_takeRoad_138 fX12_56 zk_256 zr_256_27 ?_
            refine V_iload (pc := 141) dX12_takeRoad_141 rfl ?_
            refine V_iald (pc := 143) dX12_takeRoad_143 zk_284 (by omega) (by omega) (by decide) ?_
            refine V_iload (pc := 144) dX12_takeRoad_144 rfl ?_
            refine V_icmp_ne (pc := 146) (tgt := 160) dX12_takeRoad_146 (by decide) (by omega) (by omega) (fun h146 => ?_) (fun h146 => ?_)
            · refine V_iconst (pc := 160) dX12_takeRoad_160 ?_
              refine V_goto (pc := 161) (tgt := 165) dX12_takeRoad_161 (by decide) ?_
              refine V_istore_5 (pc := 165) dX12_takeRoad_165 (by decide) rfl ?_
              refine V_iinc_6 (pc := 167) dX12_takeRoad_167 (by decide) rfl ?_
              refine V_goto (pc := 170) (tgt := 103) dX12_takeRoad_170 (by decide) ?_
              first
                | exact ih _ (r + 1) (by omega) (by omega) (Or.inr rfl) (iff_of_true rfl ⟨(hm.mp (by omega)).1, (okr_s h0).mpr ⟨(hm.mp (by omega)).2, ⟨fun q => by omega, fun q => by omega⟩⟩⟩)
                | exact ih _ (r + 1) (by omega) (by omega) (Or.inl rfl) (iff_of_false (by decide) (fun q => by have q2 := (okr_s h0).mp q.2; have q3 := q2.2; have q4 := hm.mpr ⟨q.1, q2.1⟩; omega))
            · refine V_aloadn (pc := 149) dX12_takeRoad_149 rfl ?_
              refine V_getr (pc := 150) dX12_takeRoad_150 fX12_59 zk_256 zr_256_28 ?_
              refine V_iload (pc := 153) dX12_takeRoad_153 rfl ?_
              refine V_iald (pc := 155) dX12_takeRoad_155 zk_285 (by omega) (by omega) (by decide) ?_
              refine V_iloadn (pc := 156) dX12_takeRoad_156 rfl ?_
              refine V_icmp_eq (pc := 157) (tgt := 164) dX12_takeRoad_157 (by decide) (by omega) (by omega) (fun h157 => ?_) (fun h157 => ?_)
              · refine V_iconst (pc := 164) dX12_takeRoad_164 ?_
                refine V_istore_5 (pc := 165) dX12_takeRoad_165 (by decide) rfl ?_
                refine V_iinc_6 (pc := 167) dX12_takeRoad_167 (by decide) rfl ?_
                refine V_goto (pc := 170) (tgt := 103) dX12_takeRoad_170 (by decide) ?_
                first
                  | exact ih _ (r + 1) (by omega) (by omega) (Or.inr rfl) (iff_of_true rfl ⟨(hm.mp (by omega)).1, (okr_s h0).mpr ⟨(hm.mp (by omega)).2, ⟨fun q => by omega, fun q => by omega⟩⟩⟩)
                  | exact ih _ (r + 1) (by omega) (by omega) (Or.inl rfl) (iff_of_false (by decide) (fun q => by have q2 := (okr_s h0).mp q.2; have q3 := q2.2; have q4 := hm.mpr ⟨q.1, q2.1⟩; omega))
              · refine V_iconst (pc := 160) dX12_takeRoad_160 ?_
                refine V_goto (pc := 161) (tgt := 165) dX12_takeRoad_161 (by decide) ?_
                refine V_istore_5 (pc := 165) dX12_takeRoad_165 (by decide) rfl ?_
                refine V_iinc_6 (pc := 167) dX12_takeRoad_167 (by decide) rfl ?_
                refine V_goto (pc := 170) (tgt := 103) dX12_takeRoad_170 (by decide) ?_
                first
                  | exact ih _ (r + 1) (by omega) (by omega) (Or.inr rfl) (iff_of_true rfl ⟨(hm.mp (by omega)).1, (okr_s h0).mpr ⟨(hm.mp (by omega)).2, ⟨fun q => by omega, fun q => by omega⟩⟩⟩)
                  | exact ih _ (r + 1) (by omega) (by omega) (Or.inl rfl) (iff_of_false (by decide) (fun q => by have q2 := (okr_s h0).mp q.2; have q3 := q2.2; have q4 := hm.mpr ⟨q.1, q2.1⟩; omega))

set_option maxRecDepth 20000 in
theorem l_road53 {μ m : Mem} (hx : MX m) (hw : RW m) (hk : μ 256 26 = m 256 26) (hk2 : 0 ≤ μ 256 26 ∧ μ 256 26 < 14) (ha : 0 ≤ m 284 (μ 256 26).toNat ∧ m 284 (μ 256 26).toNat ≤ 8) (hb : 0 ≤ m 285 (μ 256 26).toNat ∧ m 285 (μ 256 26).toNat ≤ 8) {f : Int} (hX : isM X (fun w m2 => w = vi (tR3 μ m).1 ∧ m2 = (tR3 μ m).2)) : V X mX12_takeRoad 53 [vr 256, vi (μ 256 26), vi f, un, un, un, un] [] m := by
  have q1 := rAt_rg hw.1 (m 284 (μ 256 26).toNat)
  have q2 := rAt_rg hw.1 (m 285 (μ 256 26).toNat)
  have hL : ∀ c, (c = 0 ∨ c = 1) → (c = 1 ↔ (¬ m 284 (μ 256 26).toNat = m 285 (μ 256 26).toNat ∧ rAt m (m 284 (μ 256 26).toNat) < 5 ∧ rAt m (m 285 (μ 256 26).toNat) < 5)) → V X mX12_takeRoad 103 [vr 256, vi (μ 256 26), vi f, vi (m 284 (μ 256 26).toNat), vi (m 285 (μ 256 26).toNat), vi c, vi 0] [] m := by
    intro c hc hcb
    refine l_may hw hk (by omega) (by omega) (B := ¬ m 284 (μ 256 26).toNat = m 285 (μ 256 26).toNat ∧ rAt m (m 284 (μ 256 26).toNat) < 5 ∧ rAt m (m 285 (μ 256 26).toNat) < 5) (fun c2 r2 hc2 hm2 => ?_) (μ 256 26).toNat c 0 (by omega) (by omega) hc ⟨fun q => ⟨hcb.mp q, fun i hi => by omega⟩, fun q => hcb.mpr q.1⟩
    refine V_iload (pc := 173) dX12_takeRoad_173 rfl ?_
    refine V_if_ne (pc := 175) (tgt := 188) dX12_takeRoad_175 (by decide) (by omega) (fun h175 => ?_) (fun h175 => ?_)
    · refine V_aloadn (pc := 188) dX12_takeRoad_188 rfl ?_
      refine V_aloadn (pc := 189) dX12_takeRoad_189 rfl ?_
      refine V_getr (pc := 190) dX12_takeRoad_190 fX12_62 zk_256 zr_256_29 ?_
      refine V_iloadn (pc := 193) dX12_takeRoad_193 rfl ?_
      refine V_iconst (pc := 194) dX12_takeRoad_194 ?_
      refine V_bipush (pc := 195) dX12_takeRoad_195 (by decide +kernel) ?_
      refine V_cv4 (pc := 197) dX12_takeRoad_197 kX12_187 zk_256 (by decide) (Nat.le_of_ble_eq_true rfl) (r_into hx zk_286 (by decide) (by omega) (by decide) (by decide)) rfl ?_
      refine V_istore_2 (pc := 200) dX12_takeRoad_200 (by decide) rfl ?_
      refine V_aloadn (pc := 201) dX12_takeRoad_201 rfl ?_
      refine V_dup_r (pc := 202) dX12_takeRoad_202 ?_
      refine V_geti (r := 0) (pc := 203) dX12_takeRoad_203 fX12_181 zk_256 ?_
      refine V_iconst (pc := 206) dX12_takeRoad_206 ?_
      refine V_iadd (pc := 207) dX12_takeRoad_207 ?_
      refine V_puti (pc := 208) dX12_takeRoad_208 fX12_181 zk_256 ?_
      refine V_iloadn (pc := 211) dX12_takeRoad_211 rfl ?_
      refine V_iret hX dX12_takeRoad_212 rfl ?_
      exact ⟨congrArg vi (by unfold tR3; rw [if_pos (hm2.mp (by omega))]), by unfold tR3; rw [if_pos (hm2.mp (by omega))]⟩
    · refine V_aloadn (pc := 178) dX12_takeRoad_178 rfl ?_
      refine V_iconst (pc := 179) dX12_takeRoad_179 ?_
      refine V_aloadn (pc := 180) dX12_takeRoad_180 rfl ?_
      refine V_geti (r := 0) (pc := 181) dX12_takeRoad_181 fX12_172 zk_256 ?_
      refine V_cv2 (pc := 184) dX12_takeRoad_184 kX12_168 zk_256 (by decide) (Nat.le_of_ble_eq_true rfl) (r_fails) rfl ?_
      refine V_iret hX dX12_takeRoad_187 rfl ?_
      exact ⟨congrArg vi (show (4 : Int) = (tR3 μ m).1 by unfold tR3; rw [if_neg (fun q => by have := hm2.mpr q; omega)]), by unfold tR3; rw [if_neg (fun q => by have := hm2.mpr q; omega)]⟩
  refine V_aloadn (pc := 53) dX12_takeRoad_53 rfl ?_
  refine V_getr (pc := 54) dX12_takeRoad_54 fX12_56 zk_256 zr_256_27 ?_
  refine V_iloadn (pc := 57) dX12_takeRoad_57 rfl ?_
  refine V_iald (pc := 58) dX12_takeRoad_58 zk_284 (by omega) (by omega) (by decide) ?_
  refine V_istore_3 (pc := 59) dX12_takeRoad_59 (by decide) rfl ?_
  refine V_aloadn (pc := 60) dX12_takeRoad_60 rfl ?_
  refine V_getr (pc := 61) dX12_takeRoad_61 fX12_59 zk_256 zr_256_28 ?_
  refine V_iloadn (pc := 64) dX12_takeRoad_64 rfl ?_
  refine V_iald (pc := 65) dX12_takeRoad_65 zk_285 (by omega) (by omega) (by decide) ?_
  refine V_istore_4 (pc := 66) dX12_takeRoad_66 (by decide) rfl ?_
  refine V_iloadn (pc := 68) dX12_takeRoad_68 rfl ?_
  refine V_iload (pc := 69) dX12_takeRoad_69 rfl ?_
  refine V_icmp_eq (pc := 71) (tgt := 97) dX12_takeRoad_71 (by decide) (by omega) (by omega) (fun h71 => ?_) (fun h71 => ?_)
  · refine V_iconst (pc := 97) dX12_takeRoad_97 ?_
    refine V_istore_5 (pc := 98) dX12_takeRoad_98 (by decide) rfl ?_
    refine V_iconst (pc := 100) dX12_takeRoad_100 ?_
    refine V_istore_6 (pc := 101) dX12_takeRoad_101 (by decide) rfl ?_
    exact hL _ (by first | exact Or.inl rfl | exact Or.inr rfl) (by first | exact iff_of_true rfl ⟨by omega, by omega, by omega⟩ | exact iff_of_false (by decide) (fun q => by omega))
  · refine V_aloadn (pc := 74) dX12_takeRoad_74 rfl ?_
    refine V_iloadn (pc := 75) dX12_takeRoad_75 rfl ?_
    refine V_cv1 (pc := 76) dX12_takeRoad_76 kX12_191 zk_256 (by decide) (Nat.le_of_ble_eq_true rfl) (r_readAt hw (by omega)) rfl ?_
    refine V_iconst (pc := 79) dX12_takeRoad_79 ?_
    refine V_icmp_ge (pc := 80) (tgt := 97) dX12_takeRoad_80 (by decide) (by omega) (by decide) (fun h80 => ?_) (fun h80 => ?_)
    · refine V_iconst (pc := 97) dX12_takeRoad_97 ?_
      refine V_istore_5 (pc := 98) dX12_takeRoad_98 (by decide) rfl ?_
      refine V_iconst (pc := 100) dX12_takeRoad_100 ?_
      refine V_istore_6 (pc := 101) dX12_takeRoad_101 (by decide) rfl ?_
      exact hL _ (by first | exact Or.inl rfl | exact Or.inr rfl) (by first | exact iff_of_true rfl ⟨by omega, by omega, by omega⟩ | exact iff_of_false (by decide) (fun q => by omega))
    · refine V_aloadn (pc := 83) dX12_takeRoad_83 rfl ?_
      refine V_iload (pc := 84) dX12_takeRoad_84 rfl ?_
      refine V_cv1 (pc := 86) dX12_takeRoad_86 kX12_191 zk_256 (by decide) (Nat.le_of_ble_eq_true rfl) (r_readAt hw (by omega)) rfl ?_
      refine V_iconst (pc := 89) dX12_takeRoad_89 ?_
      refine V_icmp_ge (pc := 90) (tgt := 97) dX12_takeRoad_90 (by decide) (by omega) (by decide) (fun h90 => ?_) (fun h90 => ?_)
      · refine V_iconst (pc := 97) dX12_takeRoad_97 ?_
        refine V_istore_5 (pc := 98) dX12_takeRoad_98 (by decide) rfl ?_
        refine V_iconst (pc := 100) dX12_takeRoad_100 ?_
        refine V_istore_6 (pc := 101) dX12_takeRoad_101 (by decide) rfl ?_
        exact hL _ (by first | exact Or.inl rfl | exact Or.inr rfl) (by first | exact iff_of_true rfl ⟨by omega, by omega, by omega⟩ | exact iff_of_false (by decide) (fun q => by omega))
      · refine V_iconst (pc := 93) dX12_takeRoad_93 ?_
        refine V_goto (pc := 94) (tgt := 98) dX12_takeRoad_94 (by decide) ?_
        refine V_istore_5 (pc := 98) dX12_takeRoad_98 (by decide) rfl ?_
        refine V_iconst (pc := 100) dX12_takeRoad_100 ?_
        refine V_istore_6 (pc := 101) dX12_takeRoad_101 (by decide) rfl ?_
        exact hL _ (by first | exact Or.inl rfl | exact Or.inr rfl) (by first | exact iff_of_true rfl ⟨by omega, by omega, by omega⟩ | exact iff_of_false (by decide) (fun q => by omega))

end

set_option maxRecDepth 20000 in
theorem r_takeRoad {μ : Mem} (h : MPI μ) (hk : μ 256 26 < 14) : SP mX12_takeRoad [vr 256] μ (fun w m => w = vi (tkR μ).1 ∧ m = (tkR μ).2) := by
  refine SP_intro (ls := [vr 256, un, un, un, un, un, un]) (by decide +kernel) rfl rfl (Nat.le_of_ble_eq_true rfl) rfl (fun X hX => ?_)
  have k1 := h.2.1.1
  obtain ⟨g1, g2, g3, g4⟩ := tR2_r h
  have f1 := inTo_f μ 284 (μ 256 26) 0 (μ 256 25 - 1)
  change (tR1 μ).1 = 0 ∨ (tR1 μ).1 = 1 ∨ (tR1 μ).1 = 2 at f1
  have hJ : ∀ x, V X mX12_takeRoad 46 [vr 256, vi (μ 256 26), vi x, un, un, un, un] [vi (tR2 μ).1] (tR2 μ).2 := by
    intro x
    refine V_istore_2 (pc := 46) dX12_takeRoad_46 (by decide) rfl ?_
    refine V_iloadn (pc := 47) dX12_takeRoad_47 rfl ?_
    refine V_if_le (pc := 48) (tgt := 53) dX12_takeRoad_48 (by decide) (by omega) (fun h48 => ?_) (fun h48 => ?_)
    · have e := tR2_ok (μ := μ) (by omega)
      have hp := h.2.2.1
      have eq : tkR μ = tR3 μ (tR2 μ).2 := if_neg (by omega)
      rw [eq] at hX
      exact l_road53 g1 g2 g3.symm (by omega) (by omega) (by omega) hX
    · refine V_iloadn (pc := 51) dX12_takeRoad_51 rfl ?_
      refine V_iret hX dX12_takeRoad_52 rfl ?_
      exact ⟨congrArg vi (by unfold tkR; rw [if_pos (by omega)]), by unfold tkR; rw [if_pos (by omega)]⟩
  refine V_aloadn (pc := 0) dX12_takeRoad_0 rfl ?_
  refine V_geti (r := 0) (pc := 1) dX12_takeRoad_1 fX12_181 zk_256 ?_
  refine V_istore_1 (pc := 4) dX12_takeRoad_4 (by decide) rfl ?_
  refine V_aloadn (pc := 5) dX12_takeRoad_5 rfl ?_
  refine V_aloadn (pc := 6) dX12_takeRoad_6 rfl ?_
  refine V_getr (pc := 7) dX12_takeRoad_7 fX12_56 zk_256 zr_256_27 ?_
  refine V_iloadn (pc := 10) dX12_takeRoad_10 rfl ?_
  refine V_iconst (pc := 11) dX12_takeRoad_11 ?_
  refine V_aloadn (pc := 12) dX12_takeRoad_12 rfl ?_
  refine V_geti (r := 0) (pc := 13) dX12_takeRoad_13 fX12_184 zk_256 ?_
  refine V_iconst (pc := 16) dX12_takeRoad_16 ?_
  refine V_isub (pc := 17) dX12_takeRoad_17 ?_
  refine V_cv4 (pc := 18) dX12_takeRoad_18 kX12_187 zk_256 (by decide) (Nat.le_of_ble_eq_true rfl) (r_t1 h hk) rfl ?_
  refine V_istore_2 (pc := 21) dX12_takeRoad_21 (by decide) rfl ?_
  refine V_iloadn (pc := 22) dX12_takeRoad_22 rfl ?_
  refine V_if_le (pc := 23) (tgt := 30) dX12_takeRoad_23 (by decide) (by omega) (fun h23 => ?_) (fun h23 => ?_)
  · refine V_aloadn (pc := 30) dX12_takeRoad_30 rfl ?_
    refine V_aloadn (pc := 31) dX12_takeRoad_31 rfl ?_
    refine V_getr (pc := 32) dX12_takeRoad_32 fX12_59 zk_256 zr_256_28 ?_
    refine V_iloadn (pc := 35) dX12_takeRoad_35 rfl ?_
    refine V_iconst (pc := 36) dX12_takeRoad_36 ?_
    refine V_aloadn (pc := 37) dX12_takeRoad_37 rfl ?_
    refine V_geti (r := 0) (pc := 38) dX12_takeRoad_38 fX12_184 zk_256 ?_
    refine V_iconst (pc := 41) dX12_takeRoad_41 ?_
    refine V_isub (pc := 42) dX12_takeRoad_42 ?_
    refine V_cv4 (pc := 43) dX12_takeRoad_43 kX12_187 zk_256 (by decide) (Nat.le_of_ble_eq_true rfl) (r_t2 h hk (by omega)) rfl ?_
    first
      | exact hJ _
      | (have e : tR2 μ = tR1 μ := if_pos (by omega)
         have e2 := hJ (tR1 μ).1
         rw [e] at e2
         exact e2)
  · refine V_iloadn (pc := 26) dX12_takeRoad_26 rfl ?_
    refine V_goto (pc := 27) (tgt := 46) dX12_takeRoad_27 (by decide) ?_
    first
      | exact hJ _
      | (have e : tR2 μ = tR1 μ := if_pos (by omega)
         have e2 := hJ (tR1 μ).1
         rw [e] at e2
         exact e2)

set_option maxRecDepth 20000 in
theorem r_takeTravel {μ : Mem} (h : MPI μ) (hk : μ 256 30 < 20) : SP mX12_takeTravel [vr 256] μ (fun w m => w = vi (tkT μ).1 ∧ m = (tkT μ).2) := by
  refine SP_intro (ls := [vr 256, un, un]) (by decide +kernel) rfl rfl (Nat.le_of_ble_eq_true rfl) rfl (fun X hX => ?_)
  have k1 := h.2.2.2
  obtain ⟨g1, g2, g3⟩ := tT2_r h
  have f1 := inTo_f μ 288 (μ 256 30) 0 (μ 256 25 - 1)
  change (tT1 μ).1 = 0 ∨ (tT1 μ).1 = 1 ∨ (tT1 μ).1 = 2 at f1
  have hJ : ∀ x, V X mX12_takeTravel 46 [vr 256, vi (μ 256 30), vi x] [vi (tT2 μ).1] (tT2 μ).2 := by
    intro x
    refine V_istore_2 (pc := 46) dX12_takeTravel_46 (by decide) rfl ?_
    refine V_iloadn (pc := 47) dX12_takeTravel_47 rfl ?_
    refine V_if_le (pc := 48) (tgt := 53) dX12_takeTravel_48 (by decide) (by omega) (fun h48 => ?_) (fun h48 => ?_)
    · have e := tT2_ok (μ := μ) (by omega)
      have hp := h.2.2.1
      have eq : tkT μ = tT3 μ (tT2 μ).2 := if_neg (by omega)
      rw [eq] at hX
      unfold tT3 at hX
      refine V_aloadn (pc := 53) dX12_takeTravel_53 rfl ?_
      refine V_getr (pc := 54) dX12_takeTravel_54 fX12_65 zk_256 zr_256_31 ?_
      refine V_iloadn (pc := 57) dX12_takeTravel_57 rfl ?_
      refine V_iald (pc := 58) dX12_takeTravel_58 zk_288 (by omega) (by omega) (by decide) ?_
      refine V_aloadn (pc := 59) dX12_takeTravel_59 rfl ?_
      refine V_getr (pc := 60) dX12_takeTravel_60 fX12_68 zk_256 zr_256_32 ?_
      refine V_iloadn (pc := 63) dX12_takeTravel_63 rfl ?_
      refine V_iald (pc := 64) dX12_takeTravel_64 zk_289 (by omega) (by omega) (by decide) ?_
      refine V_icmp_ne (pc := 65) (tgt := 78) dX12_takeTravel_65 (by decide) (by omega) (by omega) (fun h65 => ?_) (fun h65 => ?_)
      · refine V_aloadn (pc := 78) dX12_takeTravel_78 rfl ?_
        refine V_dup_r (pc := 79) dX12_takeTravel_79 ?_
        refine V_geti (r := 0) (pc := 80) dX12_takeTravel_80 fX12_195 zk_256 ?_
        refine V_iconst (pc := 83) dX12_takeTravel_83 ?_
        refine V_iadd (pc := 84) dX12_takeTravel_84 ?_
        refine V_puti (pc := 85) dX12_takeTravel_85 fX12_195 zk_256 ?_
        refine V_aloadn (pc := 88) dX12_takeTravel_88 rfl ?_
        refine V_aloadn (pc := 89) dX12_takeTravel_89 rfl ?_
        refine V_getr (pc := 90) dX12_takeTravel_90 fX12_71 zk_256 zr_256_33 ?_
        refine V_iloadn (pc := 93) dX12_takeTravel_93 rfl ?_
        refine V_iconst (pc := 94) dX12_takeTravel_94 ?_
        refine V_bipush (pc := 95) dX12_takeTravel_95 (by decide +kernel) ?_
        refine V_cv4 (pc := 97) dX12_takeTravel_97 kX12_187 zk_256 (by decide) (Nat.le_of_ble_eq_true rfl) (r_into (MX_mu g1 (by decide) (by decide)) zk_290 (by decide) (by omega) (by decide) (by decide)) rfl ?_
        refine V_iret hX dX12_takeTravel_100 rfl ?_
        rw [if_neg (by omega)]
        exact ⟨rfl, rfl⟩
      · refine V_aloadn (pc := 68) dX12_takeTravel_68 rfl ?_
        refine V_iconst (pc := 69) dX12_takeTravel_69 ?_
        refine V_aloadn (pc := 70) dX12_takeTravel_70 rfl ?_
        refine V_geti (r := 0) (pc := 71) dX12_takeTravel_71 fX12_172 zk_256 ?_
        refine V_cv2 (pc := 74) dX12_takeTravel_74 kX12_168 zk_256 (by decide) (Nat.le_of_ble_eq_true rfl) (r_fails) rfl ?_
        refine V_iret hX dX12_takeTravel_77 rfl ?_
        rw [if_pos (by omega)]
        exact ⟨rfl, rfl⟩
    · refine V_iloadn (pc := 51) dX12_takeTravel_51 rfl ?_
      refine V_iret hX dX12_takeTravel_52 rfl ?_
      exact ⟨congrArg vi (by unfold tkT; rw [if_pos (by omega)]), by unfold tkT; rw [if_pos (by omega)]⟩
  refine V_aloadn (pc := 0) dX12_takeTravel_0 rfl ?_
  refine V_geti (r := 0) (pc := 1) dX12_takeTravel_1 fX12_195 zk_256 ?_
  refine V_istore_1 (pc := 4) dX12_takeTravel_4 (by decide) rfl ?_
  refine V_aloadn (pc := 5) dX12_takeTravel_5 rfl ?_
  refine V_aloadn (pc := 6) dX12_takeTravel_6 rfl ?_
  refine V_getr (pc := 7) dX12_takeTravel_7 fX12_65 zk_256 zr_256_31 ?_
  refine V_iloadn (pc := 10) dX12_takeTravel_10 rfl ?_
  refine V_iconst (pc := 11) dX12_takeTravel_11 ?_
  refine V_aloadn (pc := 12) dX12_takeTravel_12 rfl ?_
  refine V_geti (r := 0) (pc := 13) dX12_takeTravel_13 fX12_184 zk_256 ?_
  refine V_iconst (pc := 16) dX12_takeTravel_16 ?_
  refine V_isub (pc := 17) dX12_takeTravel_17 ?_
  refine V_cv4 (pc := 18) dX12_takeTravel_18 kX12_187 zk_256 (by decide) (Nat.le_of_ble_eq_true rfl) (r_t3 h hk) rfl ?_
  refine V_istore_2 (pc := 21) dX12_takeTravel_21 (by decide) rfl ?_
  refine V_iloadn (pc := 22) dX12_takeTravel_22 rfl ?_
  refine V_if_le (pc := 23) (tgt := 30) dX12_takeTravel_23 (by decide) (by omega) (fun h23 => ?_) (fun h23 => ?_)
  · refine V_aloadn (pc := 30) dX12_takeTravel_30 rfl ?_
    refine V_aloadn (pc := 31) dX12_takeTravel_31 rfl ?_
    refine V_getr (pc := 32) dX12_takeTravel_32 fX12_68 zk_256 zr_256_32 ?_
    refine V_iloadn (pc := 35) dX12_takeTravel_35 rfl ?_
    refine V_iconst (pc := 36) dX12_takeTravel_36 ?_
    refine V_aloadn (pc := 37) dX12_takeTravel_37 rfl ?_
    refine V_geti (r := 0) (pc := 38) dX12_takeTravel_38 fX12_184 zk_256 ?_
    refine V_iconst (pc := 41) dX12_takeTravel_41 ?_
    refine V_isub (pc := 42) dX12_takeTravel_42 ?_
    refine V_cv4 (pc := 43) dX12_takeTravel_43 kX12_187 zk_256 (by decide) (Nat.le_of_ble_eq_true rfl) (r_t4 h hk (by omega)) rfl ?_
    first
      | exact hJ _
      | (have e : tT2 μ = tT1 μ := if_pos (by omega)
         have e2 := hJ (tT1 μ).1
         rw [e] at e2
         exact e2)
  · refine V_iloadn (pc := 26) dX12_takeTravel_26 rfl ?_
    refine V_goto (pc := 27) (tgt := 46) dX12_takeTravel_27 (by decide) ?_
    first
      | exact hJ _
      | (have e : tT2 μ = tT1 μ := if_pos (by omega)
         have e2 := hJ (tT1 μ).1
         rw [e] at e2
         exact e2)

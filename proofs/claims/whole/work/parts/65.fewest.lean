/-! the fewest posts -/
theorem rT_cong {μ : Mem} {x t r s : Int} (h : (In r x ↔ In s x) ∨ (pT μ 80 x = 0 ∧ pF μ 80 x = 0)) : rT μ 80 x t r = rT μ 80 x t s := by
  rcases h with h | ⟨h1, h2⟩
  · have e : aT μ 80 x t r = aT μ 80 x t s := by
      unfold aT
      by_cases c : In r x
      · rw [if_neg (fun z => z.2.2 c), if_neg (fun z => z.2.2 (h.mp c))]
      · have d : ¬ In s x := fun z => c (h.mpr z)
        by_cases f : ¬ gArm μ 32 x t = -1 ∧ Fl μ 80 x (gArm μ 32 x t)
        · rw [if_pos ⟨f.1, f.2, c⟩, if_pos ⟨f.1, f.2, d⟩]
        · rw [if_neg (fun z => f ⟨z.1, z.2.1⟩), if_neg (fun z => f ⟨z.1, z.2.1⟩)]
    unfold rT
    rw [e]
    by_cases c : In r x
    · rw [if_pos c, if_pos (h.mp c)]
    · rw [if_neg c, if_neg (fun z => c (h.mpr z))]
  · have key : ∀ r, rT μ 80 x t r = if gArm μ 32 x t = -1 then -1 else gRd μ 32 x (sA μ x (gArm μ 32 x t) 0) := fun r => by
      have e : aT μ 80 x t r = gArm μ 32 x t := by
        unfold aT
        rw [if_neg]
        rintro ⟨_, ⟨f1, f2⟩, _⟩
        unfold pF at h2
        rw [if_pos f1] at h2
        rw [h2] at f2
        have := hb_00 (k := gArm μ 32 x t) ⟨f2.1, f2.2.1⟩
        have := hb_01 0 (gArm μ 32 x t)
        have := f2.2.2
        omega
      unfold rT
      rw [e, h1, ite_self]
    rw [key, key]
theorem wk_cong {μ : Mem} {t r s : Int} (h : ∀ x, rT μ 80 x t r = rT μ 80 x t s) : ∀ (n : Nat) (x been ms : Int), wk μ t r n x been ms = wk μ t s n x been ms := by
  intro n
  induction n with
  | zero => intros; rfl
  | succ n ih => intro x been ms; simp only [wk, h, ih]
theorem wkF_cong {μ : Mem} {a t r s : Int} (h : ∀ x, rT μ 80 x t r = rT μ 80 x t s) : wkF μ a t r = wkF μ a t s := by
  unfold wkF; rw [wk_cong h]
theorem okS_cong {μ : Mem} {r s : Int} (h : ∀ x t, rT μ 80 x t r = rT μ 80 x t s) : okS μ r ↔ okS μ s := by
  unfold okS
  constructor
  · intro q g hg hf; rw [← wkF_cong (h · _)]; exact q g hg hf
  · intro q g hg hf; rw [wkF_cong (h · _)]; exact q g hg hf
theorem astr_hb {μ : Mem} (hP : 0 ≤ μ 32 0 ∧ μ 32 0 ≤ 9) : (0 ≤ astr μ ∧ astr μ < ((2 ^ (μ 32 0).toNat : Nat) : Int)) ∧ ∀ k, 0 ≤ k → k < 31 → (hb (astr μ) k = 1 ↔ (k < μ 32 0 ∧ (¬ pT μ 80 k = 0 ∨ ¬ pF μ 80 k = 0))) := by
  have := sb_hb0 (fun p => ¬ pT μ 80 p = 0 ∨ ¬ pF μ 80 p = 0) (μ 32 0).toNat (by omega)
  refine ⟨this.1, fun k a b => ?_⟩
  have h := this.2 k a b
  rw [show (((μ 32 0).toNat : Nat) : Int) = μ 32 0 by omega] at h
  exact h
theorem p512 {n : Nat} (h : n ≤ 9) : 2 ^ n ≤ 512 := Nat.pow_le_pow_right (n := 2) (by decide) h
/-- only the posts that lead astray matter -/
theorem okS_astr {μ : Mem} (hP : 0 ≤ μ 32 0 ∧ μ 32 0 ≤ 9) {s : Int} (hs : 0 ≤ s ∧ s < 2147483648) : okS μ s ↔ okS μ (iand s (astr μ)) := by
  obtain ⟨a1, a2⟩ := astr_hb (μ := μ) hP
  have hp := p512 (n := (μ 32 0).toNat) (by omega)
  refine okS_cong (fun x t => rT_cong ?_)
  by_cases c : 0 ≤ x ∧ x < μ 32 0
  · by_cases d : ¬ pT μ 80 x = 0 ∨ ¬ pF μ 80 x = 0
    · refine Or.inl ?_
      rw [In_iff (by omega), In_iff (by omega), hb_and hs (by omega) (by omega), a2 x (by omega) (by omega)]
      exact ⟨fun q => ⟨q, c.2, d⟩, fun q => q.1⟩
    · exact Or.inr (by omega)
  · refine Or.inr ⟨?_, ?_⟩
    · unfold pT; rw [if_neg c]
    · unfold pF; rw [if_neg c]
/-- with true posts a stranger nears its aim -/
theorem rT_right {μ : Mem} (H : REL μ) {x t A : Int} (hx : 0 ≤ x ∧ x < μ 32 0) (ht : 0 ≤ t ∧ t < μ 32 0) (hA : hb A x = 1 ∨ (pT μ 80 x = 0 ∧ pF μ 80 x = 0)) (hne : ¬ x = t) (hf : ¬ gFar μ 32 x t = -1) : ¬ rT μ 80 x t A = -1 ∧ (0 ≤ gBy μ 32 x (rT μ 80 x t A) ∧ gBy μ 32 x (rT μ 80 x t A) < μ 32 0) ∧ gFar μ 32 (gBy μ 32 x (rT μ 80 x t A)) t < gFar μ 32 x t ∧ ¬ gFar μ 32 (gBy μ 32 x (rT μ 80 x t A)) t = -1 := by
  obtain ⟨l1, l2⟩ := H.1.2.2.1 x t hx ht
  have hP := H.1.1.1
  have ga : ¬ gArm μ 32 x t = -1 := fun q => by rcases l1.mp q with z | z; exact hne z; exact hf z
  obtain ⟨l3, l4⟩ := l2 ga
  obtain ⟨e1, e2, e3, e4, e5, e6⟩ := RM.sd H.gi hx
  have am := RM.arm H.gi hx ht
  have g := rT_go H.gi (r := A) hx ht (by
    rintro (q | ⟨q1, q2⟩)
    · exact ga q
    · rcases hA with z | z
      · exact q1 z
      · rw [← e6, z.2] at q2
        have := H.1.A5 x t
        exact hb_00 (k := gArm μ 32 x t) (by omega) q2)
  have et : (if hb A x = 1 then 0 else μ (80 + 2) x.toNat) = 0 := by
    rcases hA with z | z
    · rw [if_pos z]
    · rw [← e5, z.1, ite_self]
  have hs5 := H.1.1.2.2.2.1 x.toNat
  have es : sA μ x (gArm μ 32 x t) 0 = gArm μ 32 x t := by
    unfold sA
    rw [if_pos (by omega), Int.add_zero, e4]
    exact Int.emod_eq_of_lt (by omega) (by omega)
  rw [et, es] at g
  rw [← g.1] at l3 l4
  have hl := H.1.2.1.one g.2.1
  have hl2 := gLn_eq g.2.1
  exact ⟨by omega, g.2.2.2.2, by omega, l4⟩
theorem wk_right {μ : Mem} (H : REL μ) {t A : Int} (ht : 0 ≤ t ∧ t < μ 32 0) (hA : ∀ x, 0 ≤ x → x < μ 32 0 → hb A x = 1 ∨ (pT μ 80 x = 0 ∧ pF μ 80 x = 0)) : ∀ (n : Nat) (x been ms : Int), (0 ≤ x ∧ x < μ 32 0) → ¬ x = t → ¬ gFar μ 32 x t = -1 → (0 ≤ been ∧ been < 512) → (∀ y, 0 ≤ y → y < μ 32 0 → hb been y = 1 → gFar μ 32 x t ≤ gFar μ 32 y t) → (wk μ t A n x been ms).1 = 1 ∨ (wk μ t A n x been ms).1 = 0 := by
  have hP := H.1.1.1
  intro n
  induction n with
  | zero => intros; exact Or.inr rfl
  | succ n ih =>
    intro x been ms hx hne hf hbn hy
    obtain ⟨r1, r2, r3, r4⟩ := rT_right H hx ht (hA x hx.1 hx.2) hne hf
    unfold wk
    rw [if_neg r1]
    by_cases d : gBy μ 32 x (rT μ 80 x t A) = t
    · rw [if_pos d]; exact Or.inl rfl
    · rw [if_neg d]
      have nin : ¬ hb been (gBy μ 32 x (rT μ 80 x t A)) = 1 := fun q => by
        have := hy _ r2.1 r2.2 q
        omega
      rw [if_neg (fun q => nin ((In_iff (by omega)).mp q))]
      have h01 := hb_01 been (gBy μ 32 x (rT μ 80 x t A))
      have hbo := bits_or' hbn (q := gBy μ 32 x (rT μ 80 x t A)) (by omega) (by omega)
      have sr := shl_rg (p := gBy μ 32 x (rT μ 80 x t A)) (by omega)
      refine ih _ _ _ r2 d r4 ⟨hbo.2.1, hbo.2.2.1⟩ (fun y h1 h2 h3 => ?_)
      rw [hb_or (by omega) sr (by omega), hb_shl (by omega) (by omega)] at h3
      rcases h3 with h3 | h3
      · have := hy y h1 h2 h3
        omega
      · rw [h3]; exact Int.le_refl _
theorem okS_A {μ : Mem} (H : REL μ) : okS μ (astr μ) := by
  have hP := H.1.1.1
  obtain ⟨a1, a2⟩ := astr_hb (μ := μ) hP
  intro g hg hf
  have tv := H.trav (g := g) (by have := H.1.1.2.2.1; omega)
  have hA : ∀ x, 0 ≤ x → x < μ 32 0 → hb (astr μ) x = 1 ∨ (pT μ 80 x = 0 ∧ pF μ 80 x = 0) := fun x h0 h1 => by
    by_cases d : ¬ pT μ 80 x = 0 ∨ ¬ pF μ 80 x = 0
    · exact Or.inl ((a2 x h0 (by omega)).mpr ⟨h1, d⟩)
    · exact Or.inr (by omega)
  have he := wkF_end H.gi (gFr μ 32 g) (gTo μ 32 g) (astr μ) tv.1 tv.2.1
  unfold wkF at he ⊢
  by_cases c : gFr μ 32 g = gTo μ 32 g
  · rw [if_pos c]
  · rw [if_neg c] at he ⊢
    have b := bits_1' (a := gFr μ 32 g) (by omega)
    rcases wk_right H tv.2.1 hA 9 (gFr μ 32 g) (ishl 1 (gFr μ 32 g)) 0 tv.1 c hf b.2 (fun y h1 h2 h3 => by
      rw [hb_shl (by omega) (by omega)] at h3
      rw [h3]; exact Int.le_refl _) with z | z
    · exact z
    · exact absurd z he
/-- u is better than v -/
abbrev btr (u v : Int) : Prop := bitsF u < bitsF v ∨ (bitsF u = bitsF v ∧ u ≤ v)
theorem mfw_sp {μ : Mem} : ∀ (n : Nat) (s f : Int), 0 ≤ s → ((f = -1 ∧ ∀ u, 0 ≤ u → u < s → ¬ okS μ u) ∨ ((0 ≤ f ∧ f < s) ∧ okS μ f ∧ ∀ u, 0 ≤ u → u < s → okS μ u → btr f u)) → ((mfw μ n s f = -1 ∧ ∀ u, 0 ≤ u → u < s + n → ¬ okS μ u) ∨ ((0 ≤ mfw μ n s f ∧ mfw μ n s f < s + n) ∧ okS μ (mfw μ n s f) ∧ ∀ u, 0 ≤ u → u < s + n → okS μ u → btr (mfw μ n s f) u)) := by
  intro n
  induction n with
  | zero =>
    intro s f h0 h
    have e : mfw μ 0 s f = f := rfl
    rw [e, show s + ((0 : Nat) : Int) = s by omega]
    exact h
  | succ n ih =>
    intro s f h0 h
    rw [mfw_s, show s + ((n + 1 : Nat) : Int) = s + 1 + n by omega]
    refine ih (s + 1) _ (by omega) ?_
    by_cases c : (f < 0 ∨ bitsF s < bitsF f) ∧ okS μ s
    · rw [if_pos c]
      refine Or.inr ⟨by omega, c.2, fun u h1 h2 h3 => ?_⟩
      by_cases e : u = s
      · rw [e]; exact Or.inr ⟨rfl, Int.le_refl _⟩
      · rcases h with h | h
        · exact absurd h3 (h.2 u h1 (by omega))
        · have := h.2.2 u h1 (by omega) h3
          have := c.1
          have := h.1
          omega
    · rw [if_neg c]
      rcases h with h | h
      · refine Or.inl ⟨h.1, fun u h1 h2 h3 => ?_⟩
        by_cases e : u = s
        · rw [e] at h3; exact c ⟨Or.inl (by omega), h3⟩
        · exact h.2 u h1 (by omega) h3
      · refine Or.inr ⟨by omega, h.2.1, fun u h1 h2 h3 => ?_⟩
        by_cases e : u = s
        · rw [e] at h3 ⊢
          have : ¬ (f < 0 ∨ bitsF s < bitsF f) := fun q => c ⟨q, h3⟩
          omega
        · exact h.2.2 u h1 (by omega) h3
theorem bv_andn (x y : BitVec 32) : x &&& (y ^^^ BitVec.allOnes 32) = 0#32 ↔ x &&& y = x := by
  constructor
  · intro h
    apply BitVec.eq_of_getLsbD_eq
    intro i hi
    have := congrArg (fun z => BitVec.getLsbD z i) h
    simp only [BitVec.getLsbD_and, BitVec.getLsbD_xor, BitVec.getLsbD_allOnes, BitVec.getLsbD_zero, hi, decide_true] at this
    rw [BitVec.getLsbD_and]
    cases h1 : x.getLsbD i <;> cases h2 : y.getLsbD i <;> simp_all
  · intro h
    apply BitVec.eq_of_getLsbD_eq
    intro i hi
    have := congrArg (fun z => BitVec.getLsbD z i) h
    simp only [BitVec.getLsbD_and] at this
    simp only [BitVec.getLsbD_and, BitVec.getLsbD_xor, BitVec.getLsbD_allOnes, BitVec.getLsbD_zero, hi, decide_true]
    cases h1 : x.getLsbD i <;> cases h2 : y.getLsbD i <;> simp_all
theorem sub_iff {u a : Int} (hu : 0 ≤ u ∧ u < 2147483648) (ha : 0 ≤ a ∧ a < 2147483648) : iand u (ixor a (-1)) = 0 ↔ ∀ k, 0 ≤ k → k < 31 → hb u k = 1 → hb a k = 1 := by
  have e1 : iand u (ixor a (-1)) = 0 ↔ iand u a = u := by
    unfold iand ixor
    rw [zi_of]
    have f1 : ((Int32.ofInt u &&& (Int32.ofInt a ^^^ Int32.ofInt (-1))).toInt = 0) ↔ (Int32.ofInt u).toBitVec &&& ((Int32.ofInt a).toBitVec ^^^ BitVec.allOnes 32) = 0#32 := by
      rw [show (0 : Int) = (0 : Int32).toInt by decide, Int32.toInt_inj, ← Int32.toBitVec_inj, Int32.toBitVec_and, Int32.toBitVec_xor]
      rw [show (Int32.ofInt (-1)).toBitVec = BitVec.allOnes 32 by decide]
      exact Iff.rfl
    have f2 : (Int32.ofInt u &&& Int32.ofInt a).toInt = u ↔ (Int32.ofInt u).toBitVec &&& (Int32.ofInt a).toBitVec = (Int32.ofInt u).toBitVec := by
      rw [← Int32.toBitVec_and, Int32.toBitVec_inj, ← Int32.toInt_inj, zi_to (x := u) (by omega)]
    rw [f1, f2, bv_andn]
  rw [e1]
  constructor
  · intro h k h0 h1 h2
    rw [← h, hb_and hu ha ⟨h0, h1⟩] at h2
    exact h2.2
  · intro h
    have ar := and_rg hu ha
    refine hb_ext (by omega) hu (fun k h0 h1 => ?_)
    rw [hb_and hu ha ⟨h0, h1⟩]
    exact ⟨fun q => q.1, fun q => ⟨q, h k h0 h1 q⟩⟩
theorem fwI_sp {μ : Mem} {a c : Int} : ∀ (n : Nat) (s : Int), 0 ≤ s → (fwI μ a c n s = -1 ∧ ∀ u, s ≤ u → u < s + n → ¬ ((iand u (ixor a (-1)) = 0 ∧ bitsF u = c) ∧ okS μ u)) ∨ ((s ≤ fwI μ a c n s ∧ fwI μ a c n s < s + n) ∧ ((iand (fwI μ a c n s) (ixor a (-1)) = 0 ∧ bitsF (fwI μ a c n s) = c) ∧ okS μ (fwI μ a c n s)) ∧ ∀ u, s ≤ u → u < fwI μ a c n s → ¬ ((iand u (ixor a (-1)) = 0 ∧ bitsF u = c) ∧ okS μ u)) := by
  intro n
  induction n with
  | zero => intro s _; exact Or.inl ⟨rfl, fun u a b => by omega⟩
  | succ n ih =>
    intro s hs
    rw [fwI_s]
    by_cases k : (iand s (ixor a (-1)) = 0 ∧ bitsF s = c) ∧ okS μ s
    · rw [if_pos k]; exact Or.inr ⟨by omega, k, fun u a b => by omega⟩
    · rw [if_neg k]
      rcases ih (s + 1) (by omega) with h | h
      · refine Or.inl ⟨h.1, fun u h1 h2 => ?_⟩
        by_cases e : u = s
        · rw [e]; exact k
        · exact h.2 u (by omega) (by omega)
      · refine Or.inr ⟨by omega, h.2.1, fun u h1 h2 => ?_⟩
        by_cases e : u = s
        · rw [e]; exact k
        · exact h.2.2 u (by omega) h2
theorem bits_9 {u : Int} (h : bitsF u = 9) : ∀ k, 0 ≤ k → k < 9 → hb u k = 1 := by
  rw [bitsF_sum] at h
  have h0 := hb_01 u 0
  have h1 := hb_01 u 1
  have h2 := hb_01 u 2
  have h3 := hb_01 u 3
  have h4 := hb_01 u 4
  have h5 := hb_01 u 5
  have h6 := hb_01 u 6
  have h7 := hb_01 u 7
  have h8 := hb_01 u 8
  intro k a b
  rcases (show k = 0 ∨ k = 1 ∨ k = 2 ∨ k = 3 ∨ k = 4 ∨ k = 5 ∨ k = 6 ∨ k = 7 ∨ k = 8 by omega) with rfl | rfl | rfl | rfl | rfl | rfl | rfl | rfl | rfl <;> omega
theorem fwO_sp {μ : Mem} {a : Int} (ha : 0 ≤ a ∧ a < 512) (hA : okS μ a) : ∀ (n : Nat) (c : Int), 0 ≤ c → c + n = 9 → (∀ u, 0 ≤ u → u ≤ a → iand u (ixor a (-1)) = 0 → okS μ u → c ≤ bitsF u) → (0 ≤ fwO μ a n c ∧ fwO μ a n c ≤ a) ∧ okS μ (fwO μ a n c) ∧ ∀ u, 0 ≤ u → u ≤ a → iand u (ixor a (-1)) = 0 → okS μ u → btr (fwO μ a n c) u := by
  intro n
  induction n with
  | zero =>
    intro c h0 h1 h
    show (0 ≤ a ∧ a ≤ a) ∧ okS μ a ∧ _
    refine ⟨by omega, hA, fun u h2 h3 h4 h5 => ?_⟩
    have b1 := h u h2 h3 h4 h5
    have b2 := bitsF_rg' (s := u) (by omega)
    have b3 := bitsF_rg' (s := a) ha
    have hsub := (sub_iff (u := u) (a := a) (by omega) (by omega)).mp h4
    have m := bitsF_mono (a := u) (b := a) (fun k x y z => hsub k x (by omega) z)
    have u9 := bits_9 (u := u) (by omega)
    have e : u = a := hb_ext (by omega) (by omega) (fun k x y => by
      by_cases q : k < 9
      · exact ⟨fun z => hsub k x y z, fun _ => u9 k x q⟩
      · exact ⟨fun z => absurd z (hb_hi (n := 9) (by omega) (by have : (2 ^ 9 : Nat) = 512 := by decide
                                                                omega) (by omega) y), fun z => absurd z (hb_hi (n := 9) (by omega) (by have : (2 ^ 9 : Nat) = 512 := by decide
                                                                                                                                       omega) (by omega) y)⟩)
    rw [e]; exact Or.inr ⟨rfl, Int.le_refl _⟩
  | succ n ih =>
    intro c h0 h1 h
    show (0 ≤ fwO μ a (n + 1) c ∧ fwO μ a (n + 1) c ≤ a) ∧ okS μ (fwO μ a (n + 1) c) ∧ ∀ u, 0 ≤ u → u ≤ a → iand u (ixor a (-1)) = 0 → okS μ u → btr (fwO μ a (n + 1) c) u
    rw [fwO_s]
    rcases fwI_sp (μ := μ) (a := a) (c := c) (a + 1).toNat 0 (by decide) with k | k
    · rw [if_pos k.1]
      refine ih (c + 1) (by omega) (by omega) (fun u h2 h3 h4 h5 => ?_)
      have b1 := h u h2 h3 h4 h5
      by_cases e : bitsF u = c
      · exact absurd ⟨⟨h4, e⟩, h5⟩ (k.2 u h2 (by omega))
      · omega
    · rw [if_neg (by omega)]
      refine ⟨by omega, k.2.1.2, fun u h2 h3 h4 h5 => ?_⟩
      have b1 := h u h2 h3 h4 h5
      by_cases e : bitsF u = c
      · refine Or.inr ⟨by rw [e]; exact k.2.1.1.2, ?_⟩
        by_cases d : fwI μ a c (a + 1).toNat 0 ≤ u
        · exact d
        · exact absurd ⟨⟨h4, e⟩, h5⟩ (k.2.2 u h2 (by omega))
      · exact Or.inl (by rw [k.2.1.1.2]; omega)
theorem fewest_eq {μ : Mem} (H : REL μ) : mfw μ (ishl 1 (μ 32 0)).toNat 0 (-1) = fwO μ (astr μ) 9 0 := by
  have hP := H.1.1.1
  obtain ⟨a1, a2⟩ := astr_hb (μ := μ) hP
  have hp := p512 (n := (μ 32 0).toNat) (by omega)
  have e1 := ishl_1 (μ 32 0).toNat (by omega)
  rw [show (((μ 32 0).toNat : Nat) : Int) = μ 32 0 by omega] at e1
  have e2 : ((2 : Int) ^ (μ 32 0).toNat) = ((2 ^ (μ 32 0).toNat : Nat) : Int) := by norm_cast
  rw [e2] at e1
  rw [e1, Int.toNat_natCast]
  generalize (2 ^ (μ 32 0).toNat : Nat) = N at a1 hp
  have oA := okS_A H
  obtain ⟨c1, c2, c3⟩ := fwO_sp (μ := μ) (a := astr μ) (by omega) oA 9 0 (by decide) (by decide) (fun u h2 h3 h4 h5 => (bitsF_rg' (s := u) (by omega)).1)
  rcases mfw_sp (μ := μ) N 0 (-1) (by decide) (Or.inl ⟨rfl, fun u h1 h2 => by omega⟩) with r | ⟨r1, r2, r3⟩
  · exact absurd oA (r.2 (astr μ) (by omega) (by omega))
  · have hR := r3 _ c1.1 (by omega) c2
    have ar := and_rg (a := mfw μ N 0 (-1)) (b := astr μ) (by omega) (by omega)
    have hm := bitsF_mono (a := iand (mfw μ N 0 (-1)) (astr μ)) (b := mfw μ N 0 (-1)) (fun k x y z => ((hb_and (by omega) (by omega) (by omega)).mp z).1)
    have hC := c3 (iand (mfw μ N 0 (-1)) (astr μ)) ar.1 ar.2.2 ((sub_iff (by omega) (by omega)).mpr (fun k x y z => ((hb_and (by omega) (by omega) (by omega)).mp z).2)) ((okS_astr hP (by omega)).mp r2)
    omega
theorem mfw_ag {μ ν : Mem} (g : Ag μ ν) : ∀ (n : Nat) (s f : Int), mfw ν n s f = mfw μ n s f := by
  intro n
  induction n with
  | zero => intros; rfl
  | succ n ih =>
    intro s f
    rw [mfw_s, mfw_s, ih]
    congr 1
    by_cases c : (f < 0 ∨ bitsF s < bitsF f) ∧ okS μ s
    · rw [if_pos c, if_pos ⟨c.1, (okS_ag g s).mpr c.2⟩]
    · rw [if_neg c, if_neg (fun z => c ⟨z.1, (okS_ag g s).mp z.2⟩)]
theorem a_fewest {μ : Mem} (H : REL μ) : Agr mX11_fewest mX12_fewest [] μ := by
  have hP := H.1.1.1
  obtain ⟨a1, a2⟩ := astr_hb (μ := μ) hP
  have hp := p512 (n := (μ 32 0).toNat) (by omega)
  refine ⟨fwO μ (astr μ) 9 0, _, t_fewest H.ci (by omega), ?_⟩
  rintro w m ⟨rfl, hm⟩
  have hs : SC μ m := hm.sc
  have G := REL_sc hs H
  refine ⟨rfl, _, r_fewest G.gw, ?_⟩
  rintro w2 m2 ⟨rfl, hm2⟩
  exact ⟨congrArg vi (by rw [mfw_ag hs.ag, hs.c 32 (by decide), fewest_eq H]), REL_sc hm2.sc G⟩

/-- what was read is a land's -/
def PRI (μ : Mem) : Prop := MPI μ ∧ (∀ r : Nat, (r : Int) < μ 256 26 → (0 ≤ μ 284 r ∧ μ 284 r < μ 256 25) ∧ (0 ≤ μ 285 r ∧ μ 285 r < μ 256 25) ∧ ¬ μ 284 r = μ 285 r ∧ (1 ≤ μ 286 r ∧ μ 286 r ≤ 99)) ∧ (∀ p : Int, cnt (μ 284) (μ 285) p (μ 256 26).toNat ≤ 5) ∧ ∀ g : Nat, (g : Int) < μ 256 30 → (0 ≤ μ 288 g ∧ μ 288 g < μ 256 25) ∧ (0 ≤ μ 289 g ∧ μ 289 g < μ 256 25) ∧ ¬ μ 288 g = μ 289 g ∧ (1 ≤ μ 290 g ∧ μ 290 g ≤ 99)
theorem rAL_cnt {μ : Mem} {p : Int} : ∀ (n r : Nat) (acc : Int), rAL μ p n r acc = acc + (cnt (μ 284) (μ 285) p (r + n) - cnt (μ 284) (μ 285) p r) := by
  intro n
  induction n with
  | zero => intro r acc; simp only [rAL, Nat.add_zero]; omega
  | succ n ih =>
    intro r acc
    rw [rAL_s, ih, show r + (n + 1) = r + 1 + n by omega, cnt_s]
    omega
theorem rAt_cnt {μ : Mem} {p : Int} : rAt μ p = cnt (μ 284) (μ 285) p (μ 256 26).toNat := by
  unfold rAt
  rw [rAL_cnt, Nat.zero_add]
  simp only [cnt]
  omega
theorem cnt_cg {f g f' g' : Row} {p : Int} : ∀ (n : Nat), (∀ r, r < n → f' r = f r ∧ g' r = g r) → cnt f' g' p n = cnt f g p n := by
  intro n
  induction n with
  | zero => intro _; rfl
  | succ n ih =>
    intro h
    have h1 := h n (by omega)
    rw [cnt_s, cnt_s, ih (fun r hr => h r (by omega)), h1.1, h1.2]
/-- the shape of what is read -/
theorem tkR_sh {μ : Mem} (h : MPI μ) (h0 : (tkR μ).1 = 0) : ((0 ≤ hV μ ∧ hV μ < μ 256 25) ∧ (0 ≤ hV (tR1 μ).2 ∧ hV (tR1 μ).2 < μ 256 25) ∧ (1 ≤ hV (tR2 μ).2 ∧ hV (tR2 μ).2 ≤ 99)) ∧ mayR (tR2 μ).2 (hV μ) (hV (tR1 μ).2) (μ 256 26) ∧
    (∀ r, (tkR μ).2 284 r = if r = (μ 256 26).toNat then hV μ else μ 284 r) ∧ (∀ r, (tkR μ).2 285 r = if r = (μ 256 26).toNat then hV (tR1 μ).2 else μ 285 r) ∧ (∀ r, (tkR μ).2 286 r = if r = (μ 256 26).toNat then hV (tR2 μ).2 else μ 286 r) ∧
    (tkR μ).2 256 26 = μ 256 26 + 1 ∧ (∀ j, (j ≠ 19 ∧ j ≠ 20 ∧ j ≠ 23 ∧ j ≠ 24) → j ≠ 26 → (tkR μ).2 256 j = μ 256 j) ∧ (∀ c, c ≠ 256 → c ≠ 284 → c ≠ 285 → c ≠ 286 → (tkR μ).2 c = μ c) ∧ (tkR μ).2 256 20 = hE (tR2 μ).2 ∧ (tR1 μ).1 = 0 ∧ (tR2 μ).1 = 0 ∧ (tkN (tR2 μ).2 1 99).1 = 0 := by
  have g := tR2_r h
  unfold tkR at h0 ⊢
  by_cases q : 0 < (tR2 μ).1
  · rw [if_pos q] at h0; omega
  · rw [if_neg q] at h0 ⊢
    obtain ⟨⟨a1, a2⟩, ⟨b1, b2⟩, f1, f2, e24⟩ := tR2_ok q
    unfold tR3 at h0 ⊢
    by_cases q2 : mayR (tR2 μ).2 ((tR2 μ).2 284 (μ 256 26).toNat) ((tR2 μ).2 285 (μ 256 26).toNat) (μ 256 26)
    · rw [if_pos q2] at h0 ⊢
      dsimp only at h0 ⊢
      have o3 := inTo_ok h0
      have e2 : tR2 μ = inTo (tR1 μ).2 285 (μ 256 26) 0 ((tR1 μ).2 256 25 - 1) := tR2_0 (by omega)
      have m2c : ∀ c, c ≠ 256 → c ≠ 284 → c ≠ 285 → (tR2 μ).2 c = μ c := by
        intro c hc h1 h2
        rw [e2, inTo_c hc h2]
        exact inTo_c hc h1
      have m2j : ∀ j, (j ≠ 19 ∧ j ≠ 20 ∧ j ≠ 23 ∧ j ≠ 24) → (tR2 μ).2 256 j = μ 256 j := by
        intro j hj
        rw [e2, inTo_j (by decide) hj]
        exact inTo_j (by decide) hj
      rw [a2, b2] at q2
      refine ⟨⟨by omega, by omega, o3.1⟩, q2, fun r => ?_, fun r => ?_, fun r => ?_, ?_, fun j h1 h2 => ?_, fun c h1 h2 h3 h4 => ?_, ?_, f1, f2, h0⟩
      · rw [mu_c (by decide), inTo_c (by decide) (by decide)]
        by_cases e : r = (μ 256 26).toNat
        · rw [if_pos e, e, a2]
        · rw [if_neg e, e2, inTo_c (by decide) (by decide)]
          exact inTo_n (by decide) e
      · rw [mu_c (by decide), inTo_c (by decide) (by decide)]
        by_cases e : r = (μ 256 26).toNat
        · rw [if_pos e, e, b2]
        · rw [if_neg e, e2, inTo_n (by decide) e]
          exact congrFun (inTo_c (by decide) (by decide)) r
      · rw [mu_c (by decide)]
        by_cases e : r = (μ 256 26).toNat
        · rw [if_pos e, e, o3.2]
        · rw [if_neg e, inTo_n (by decide) e, m2c 286 (by decide) (by decide) (by decide)]
      · rw [mu_h, inTo_j (by decide) (by decide), m2j 26 (by decide)]
      · rw [mu_j h2, inTo_j (by decide) h1, m2j j h1]
      · rw [mu_ne h1, inTo_c h1 h4, m2c c h1 h2 h3]
      · rw [mu_j (by decide)]
        obtain ⟨_, _, _, e5⟩ := tkN_ok (μ := (tR2 μ).2) (l := 1) (g := 99) h0
        unfold inTo
        dsimp only
        rw [mu_c (by decide), e5, nmM_20]
    · rw [if_neg q2] at h0
      cases h0
theorem tkT_sh {μ : Mem} (h : MPI μ) (h0 : (tkT μ).1 = 0) : ((0 ≤ hV μ ∧ hV μ < μ 256 25) ∧ (0 ≤ hV (tT1 μ).2 ∧ hV (tT1 μ).2 < μ 256 25) ∧ (1 ≤ hV (mu (tT2 μ).2 256 30 (μ 256 30 + 1)) ∧ hV (mu (tT2 μ).2 256 30 (μ 256 30 + 1)) ≤ 99)) ∧ ¬ hV μ = hV (tT1 μ).2 ∧
    (∀ r, (tkT μ).2 288 r = if r = (μ 256 30).toNat then hV μ else μ 288 r) ∧ (∀ r, (tkT μ).2 289 r = if r = (μ 256 30).toNat then hV (tT1 μ).2 else μ 289 r) ∧ (∀ r, (tkT μ).2 290 r = if r = (μ 256 30).toNat then hV (mu (tT2 μ).2 256 30 (μ 256 30 + 1)) else μ 290 r) ∧
    (tkT μ).2 256 30 = μ 256 30 + 1 ∧ (∀ j, (j ≠ 19 ∧ j ≠ 20 ∧ j ≠ 23 ∧ j ≠ 24) → j ≠ 30 → (tkT μ).2 256 j = μ 256 j) ∧ (∀ c, c ≠ 256 → c ≠ 288 → c ≠ 289 → c ≠ 290 → (tkT μ).2 c = μ c) ∧ (tkT μ).2 256 20 = hE (mu (tT2 μ).2 256 30 (μ 256 30 + 1)) ∧ (tT1 μ).1 = 0 ∧ (tT2 μ).1 = 0 ∧ (tkN (mu (tT2 μ).2 256 30 (μ 256 30 + 1)) 1 99).1 = 0 := by
  have g := tT2_r h
  unfold tkT at h0 ⊢
  by_cases q : 0 < (tT2 μ).1
  · rw [if_pos q] at h0; omega
  · rw [if_neg q] at h0 ⊢
    obtain ⟨⟨a1, a2⟩, ⟨b1, b2⟩, f1, f2, e24⟩ := tT2_ok q
    unfold tT3 at h0 ⊢
    rw [a2, b2] at h0 ⊢
    by_cases q2 : hV μ = hV (tT1 μ).2
    · rw [if_pos q2] at h0
      cases h0
    · rw [if_neg q2] at h0 ⊢
      have e2 : tT2 μ = inTo (tT1 μ).2 289 (μ 256 30) 0 ((tT1 μ).2 256 25 - 1) := tT2_0 (by omega)
      have m2c : ∀ c, c ≠ 256 → c ≠ 288 → c ≠ 289 → (tT2 μ).2 c = μ c := by
        intro c hc h1 h2
        rw [e2, inTo_c hc h2]
        exact inTo_c hc h1
      have m2j : ∀ j, (j ≠ 19 ∧ j ≠ 20 ∧ j ≠ 23 ∧ j ≠ 24) → (tT2 μ).2 256 j = μ 256 j := by
        intro j hj
        rw [e2, inTo_j (by decide) hj]
        exact inTo_j (by decide) hj
      rw [g.2.1] at h0 ⊢
      have o3 := inTo_ok h0
      refine ⟨⟨by omega, by omega, o3.1⟩, q2, fun r => ?_, fun r => ?_, fun r => ?_, ?_, fun j h1 h2 => ?_, fun c h1 h2 h3 h4 => ?_, ?_, f1, f2, h0⟩
      · rw [inTo_c (by decide) (by decide), mu_c (by decide)]
        by_cases e : r = (μ 256 30).toNat
        · rw [if_pos e, e, a2]
        · rw [if_neg e, e2, inTo_c (by decide) (by decide)]
          exact inTo_n (by decide) e
      · rw [inTo_c (by decide) (by decide), mu_c (by decide)]
        by_cases e : r = (μ 256 30).toNat
        · rw [if_pos e, e, b2]
        · rw [if_neg e, e2, inTo_n (by decide) e]
          exact congrFun (inTo_c (by decide) (by decide)) r
      · by_cases e : r = (μ 256 30).toNat
        · rw [if_pos e, e, o3.2]
        · rw [if_neg e, inTo_n (by decide) e, mu_c (by decide), m2c 290 (by decide) (by decide) (by decide)]
      · rw [inTo_j (by decide) (by decide), mu_h]
      · rw [inTo_j (by decide) h1, mu_j h2, m2j j h1]
      · rw [inTo_c h1 h4, mu_ne h1, m2c c h1 h2 h3]
      · obtain ⟨_, _, _, e5⟩ := tkN_ok (μ := mu (tT2 μ).2 256 30 (μ 256 30 + 1)) (l := 1) (g := 99) h0
        unfold inTo
        dsimp only
        rw [mu_c (by decide), e5, nmM_20]
theorem tC0_sh {ν : Mem} (h0 : (tC0 ν).1 = 0) : (1 ≤ hV (tCm ν) ∧ hV (tCm ν) ≤ 9) ∧ (tC0 ν).2 256 25 = hV (tCm ν) ∧ (∀ j, (j ≠ 19 ∧ j ≠ 20 ∧ j ≠ 23 ∧ j ≠ 24) → j ≠ 25 → (tC0 ν).2 256 j = ν 256 j) ∧ (∀ c, c ≠ 256 → (tC0 ν).2 c = ν c) ∧ (tC0 ν).2 256 20 = hE (tCm ν) ∧ (tkN (tCm ν) 1 9).1 = 0 := by
  obtain ⟨e1, e2, e3, e4⟩ := tkN_ok (μ := tCm ν) (l := 1) (g := 9) h0
  unfold tC0
  dsimp only
  refine ⟨e3, ?_, fun j h1 h2 => ?_, fun c h => ?_, ?_, h0⟩
  · rw [mu_h, e4, nmM_23]
  · rw [mu_j h2, tkN_j h1, tCm_j h1.2.1]
  · rw [mu_ne h, tkN_c h]; exact mu_ne h
  · rw [mu_j (by decide), e4, nmM_20]
theorem tCe_ok {p : Int × Mem} (h : (tCe p).1 = 0) : p.1 = 0 ∧ sgm p.2 (hB p.2) = 59 ∧ (tCe p).2 = mu (heM p.2) 256 20 (hB p.2 + 1) := by
  unfold tCe at h ⊢
  split at h
  · rename_i h1
    split at h
    · rename_i h2
      rw [if_pos h1, if_pos h2]
      exact ⟨h1, h2, rfl⟩
    · cases h
  · rename_i h1
    exact absurd h h1
theorem tC_ok {ν : Mem} {k : Int} (h : (tC ν k).1 = 0) : ¬ tCa ν k ∧ ¬ tCb ν k ∧ tC ν k = tCe (tCp ν k) := by
  unfold tC at h ⊢
  split at h
  · cases h
  · rename_i h1
    split at h
    · cases h
    · rename_i h2
      rw [if_neg h1, if_neg h2]
      exact ⟨h1, h2, rfl⟩
theorem PRI_e {p : Mem} (h : PRI p) (hs : sgm p (hB p) = 59) : PRI (mu (heM p) 256 20 (hB p + 1)) := by
  have c : ∀ c, c ≠ 256 → mu (heM p) 256 20 (hB p + 1) c = p c := fun c hc => (mu_ne hc).trans (heM_c hc)
  have j : ∀ j, j ≠ 20 → mu (heM p) 256 20 (hB p + 1) 256 j = p 256 j := fun j hj => (mu_j hj).trans (heM_j hj)
  have hl := sgm_lt (μ := p) (a := hB p) (by omega)
  obtain ⟨⟨h1, h2, h3, h4⟩, h5, h6, h7⟩ := h
  refine ⟨⟨MX_20 (MX_he h1) (by rw [heM_j (by decide)]; omega), ?_, ?_, ?_⟩, ?_, ?_, ?_⟩
  · unfold RW; rw [j 26 (by decide), c 284 (by decide), c 285 (by decide)]; exact h2
  · rw [j 25 (by decide)]; exact h3
  · rw [j 30 (by decide)]; exact h4
  · rw [j 26 (by decide), j 25 (by decide), c 284 (by decide), c 285 (by decide), c 286 (by decide)]; exact h5
  · rw [j 26 (by decide), c 284 (by decide), c 285 (by decide)]; exact h6
  · rw [j 30 (by decide), j 25 (by decide), c 288 (by decide), c 289 (by decide), c 290 (by decide)]; exact h7
theorem PRI_rw {μ : Mem} (h : PRI μ) : PRI (rwM μ) := by
  obtain ⟨h1, h5, h6, h7⟩ := h
  refine ⟨(wOk_rw h1).1, ?_, ?_, ?_⟩
  · rw [rwM_j (by decide) (by decide) (by decide), rwM_j (by decide) (by decide) (by decide), rwM_c (by decide), rwM_c (by decide), rwM_c (by decide)]; exact h5
  · rw [rwM_j (by decide) (by decide) (by decide), rwM_c (by decide), rwM_c (by decide)]; exact h6
  · rw [rwM_j (by decide) (by decide) (by decide), rwM_j (by decide) (by decide) (by decide), rwM_c (by decide), rwM_c (by decide), rwM_c (by decide)]; exact h7
theorem PRI_m {ν : Mem} (h : PRI ν) (hw : wOk ν) : PRI (tCm ν) := by
  obtain ⟨h1, h5, h6, h7⟩ := h
  have c : ∀ c, c ≠ 256 → tCm ν c = ν c := fun c hc => mu_ne hc
  refine ⟨MPI_m hw, ?_, ?_, ?_⟩
  · rw [tCm_j (by decide), tCm_j (by decide), c 284 (by decide), c 285 (by decide), c 286 (by decide)]; exact h5
  · rw [tCm_j (by decide), c 284 (by decide), c 285 (by decide)]; exact h6
  · rw [tCm_j (by decide), tCm_j (by decide), c 288 (by decide), c 289 (by decide), c 290 (by decide)]; exact h7
theorem PRI_R {μ : Mem} (h : PRI μ) (hk : μ 256 26 < 14) (h0 : (tkR μ).1 = 0) : PRI (tkR μ).2 := by
  obtain ⟨⟨a1, a2, a3⟩, am, s1, s2, s3, s26, sj, sc, s20, f1, f2, f3⟩ := tkR_sh h.1 h0
  obtain ⟨h1, h5, h6, h7⟩ := h
  have hR := h1.2.1.1
  refine ⟨⟨MX_R h1, R_ok h1 hk h0, by rw [sj 25 (by decide) (by decide)]; exact h1.2.2.1, by rw [sj 30 (by decide) (by decide)]; exact h1.2.2.2⟩, fun r hr => ?_, fun p => ?_, ?_⟩
  · rw [s26] at hr
    rw [s1, s2, s3, sj 25 (by decide) (by decide)]
    by_cases e : r = (μ 256 26).toNat
    · rw [if_pos e, if_pos e, if_pos e]
      exact ⟨a1, a2, am.1.1, a3⟩
    · rw [if_neg e, if_neg e, if_neg e]
      exact h5 r (by omega)
  · rw [s26, show (μ 256 26 + 1).toNat = (μ 256 26).toNat + 1 by omega, cnt_s]
    rw [cnt_cg (f := μ 284) (g := μ 285) (μ 256 26).toNat (fun r hr => ⟨by rw [s1, if_neg (by omega)], by rw [s2, if_neg (by omega)]⟩)]
    rw [s1, s2, if_pos rfl, if_pos rfl]
    have q1 := am.1.2.1
    have q2 := am.1.2.2
    rw [rAt_cnt, (tR2_r h1).2.2.1] at q1 q2
    have e2 : ∀ x, cnt ((tR2 μ).2 284) ((tR2 μ).2 285) x (μ 256 26).toNat = cnt (μ 284) (μ 285) x (μ 256 26).toNat := by
      intro x
      refine cnt_cg _ (fun r hr => ?_)
      rw [tR2_0 (by omega)]
      exact ⟨(congrFun (inTo_c (by decide) (by decide)) r).trans (inTo_n (by decide) (by omega)), (inTo_n (by decide) (by omega)).trans (congrFun (inTo_c (by decide) (by decide)) r)⟩
    rw [e2] at q1 q2
    have := h6 p
    split
    · rename_i hc
      rcases hc with hc | hc
      · rw [← hc]; omega
      · rw [← hc]; omega
    · omega
  · rw [sj 25 (by decide) (by decide), sj 30 (by decide) (by decide), sc 288 (by decide) (by decide) (by decide) (by decide), sc 289 (by decide) (by decide) (by decide) (by decide), sc 290 (by decide) (by decide) (by decide) (by decide)]
    exact h7
theorem PRI_T {μ : Mem} (h : PRI μ) (hk : μ 256 30 < 20) (h0 : (tkT μ).1 = 0) : PRI (tkT μ).2 := by
  obtain ⟨⟨a1, a2, a3⟩, am, s1, s2, s3, s30, sj, sc, s20, f1, f2, f3⟩ := tkT_sh h.1 h0
  obtain ⟨h1, h5, h6, h7⟩ := h
  have hT := h1.2.2.2
  refine ⟨⟨MX_T h1, ?_, by rw [sj 25 (by decide) (by decide)]; exact h1.2.2.1, by rw [s30]; omega⟩, ?_, ?_, fun g hg => ?_⟩
  · unfold RW; rw [sj 26 (by decide) (by decide), sc 284 (by decide) (by decide) (by decide) (by decide), sc 285 (by decide) (by decide) (by decide) (by decide)]; exact h1.2.1
  · rw [sj 26 (by decide) (by decide), sj 25 (by decide) (by decide), sc 284 (by decide) (by decide) (by decide) (by decide), sc 285 (by decide) (by decide) (by decide) (by decide), sc 286 (by decide) (by decide) (by decide) (by decide)]; exact h5
  · rw [sj 26 (by decide) (by decide), sc 284 (by decide) (by decide) (by decide) (by decide), sc 285 (by decide) (by decide) (by decide) (by decide)]; exact h6
  · rw [s30] at hg
    rw [s1, s2, s3, sj 25 (by decide) (by decide)]
    by_cases e : g = (μ 256 30).toNat
    · rw [if_pos e, if_pos e, if_pos e]
      exact ⟨a1, a2, am, a3⟩
    · rw [if_neg e, if_neg e, if_neg e]
      exact h7 g (by omega)
theorem PRI_0 {ν : Mem} (h : PRI ν) (hw : wOk ν) (hP : ¬ 0 < ν 256 25) (h0 : (tC0 ν).1 = 0) : PRI (tC0 ν).2 := by
  obtain ⟨a1, s25, sj, sc, s20, f1⟩ := tC0_sh h0
  obtain ⟨h1, h5, h6, h7⟩ := h
  have hP2 := h1.2.2.1
  have hR := h1.2.1.1
  have hT := h1.2.2.2
  have r0 : ν 256 26 = 0 := by
    by_cases e : ν 256 26 = 0
    · exact e
    · have := (h5 0 (by omega)).1; omega
  have t0 : ν 256 30 = 0 := by
    by_cases e : ν 256 30 = 0
    · exact e
    · have := (h7 0 (by omega)).1; omega
  refine ⟨⟨MX_mu (MX_tk (MPI_m hw).1 1 9) (by decide) (by decide), ?_, by rw [s25]; omega, by rw [sj 30 (by decide) (by decide)]; exact hT⟩, ?_, ?_, ?_⟩
  · unfold RW; rw [sj 26 (by decide) (by decide), sc 284 (by decide), sc 285 (by decide)]; exact h1.2.1
  · rw [sj 26 (by decide) (by decide), r0]; intro r hr; omega
  · rw [sj 26 (by decide) (by decide), sc 284 (by decide), sc 285 (by decide)]; exact h6
  · rw [sj 30 (by decide) (by decide), t0]; intro r hr; omega
theorem PRI_p {ν : Mem} (h : PRI ν) (hw : wOk ν) {k : Int} (ha : ¬ tCa ν k) (hb : ¬ tCb ν k) (hk : k = -1 ∨ k = 0 ∨ k = 1 ∨ k = 2) (h0 : (tCp ν k).1 = 0) : PRI (tCp ν k).2 := by
  have hm := PRI_m h hw
  have hR := h.1.2.1.1
  have hT := h.1.2.2.2
  unfold tCp at h0 ⊢
  split
  · rename_i q
    rw [if_pos q] at h0
    exact PRI_0 h hw (by omega) h0
  · rename_i q
    rw [if_neg q] at h0
    split
    · rename_i q2
      rw [if_pos q2] at h0
      exact PRI_R hm (by rw [tCm_j (by decide)]; omega) h0
    · rename_i q2
      rw [if_neg q2] at h0
      exact PRI_T hm (by rw [tCm_j (by decide)]; omega) h0
theorem tkC_ok {μ : Mem} (h : PRI μ) (h0 : (tkC μ).1 = 0) : PRI (tkC μ).2 ∧ μ 256 20 < (tkC μ).2 256 20 ∧ (tkC μ).2 256 18 = μ 256 18 := by
  unfold tkC at h0 ⊢
  have hw := wOk_rw h.1
  obtain ⟨h1, h2, h3⟩ := tC_ok h0
  rw [h3] at h0 ⊢
  obtain ⟨g1, g2, g3⟩ := tCe_ok h0
  have hp := PRI_p (PRI_rw h) hw h1 h2 (kd_rg μ) g1
  have q := p_20 hw (kdF μ)
  have q2 := hB_rg hp.1.1
  have q3 := hB_rg h.1.1
  have q4 := hW_rg h.1.1
  rw [rwM_22] at q
  refine ⟨by rw [g3]; exact PRI_e hp g2, ?_, ?_⟩
  · rw [g3, mu_h]; omega
  · rw [g3, mu_j (by decide), heM_j (by decide), (FP_p (rwM μ) (kdF μ)).2 18 (by decide), rwM_j (by decide) (by decide) (by decide)]
theorem tkC_f {μ : Mem} (h : MPI μ) : 0 ≤ (tkC μ).1 ∧ (tkC μ).1 ≤ 4 := by
  have hw := wOk_rw h
  unfold tkC tC
  split
  · dsimp only; omega
  · split
    · dsimp only; omega
    · have g := MPI_m hw
      have hp : 0 ≤ (tCp (rwM μ) (kdF μ)).1 ∧ (tCp (rwM μ) (kdF μ)).1 ≤ 4 := by
        unfold tCp
        split
        · have := tkN_f (tCm (rwM μ)) 1 9
          unfold tC0
          dsimp only
          omega
        · split
          · unfold tkR
            have := (tR2_r g).2.2.2
            split
            · omega
            · unfold tR3
              split
              · have := inTo_f (tR2 (tCm (rwM μ))).2 286 (tCm (rwM μ) 256 26) 1 99
                dsimp only
                omega
              · dsimp only; omega
          · unfold tkT
            have := (tT2_r g).2.2
            split
            · omega
            · unfold tT3
              split
              · dsimp only; omega
              · have := inTo_f (mu (tT2 (tCm (rwM μ))).2 256 30 ((tT2 (tCm (rwM μ))).2 256 30 + 1)) 290 (tCm (rwM μ) 256 30) 1 99
                omega
      unfold tCe
      split
      · split <;> (dsimp only; omega)
      · exact hp
theorem PRI_he {μ : Mem} (h : PRI μ) : PRI (heM μ) := by
  obtain ⟨⟨h1, h2, h3, h4⟩, h5, h6, h7⟩ := h
  have c : ∀ c, c ≠ 256 → heM μ c = μ c := fun c hc => heM_c hc
  have j : ∀ j, j ≠ 20 → heM μ 256 j = μ 256 j := fun j hj => heM_j hj
  refine ⟨⟨MX_he h1, ?_, ?_, ?_⟩, ?_, ?_, ?_⟩
  · unfold RW; rw [j 26 (by decide), c 284 (by decide), c 285 (by decide)]; exact h2
  · rw [j 25 (by decide)]; exact h3
  · rw [j 30 (by decide)]; exact h4
  · rw [j 26 (by decide), j 25 (by decide), c 284 (by decide), c 285 (by decide), c 286 (by decide)]; exact h5
  · rw [j 26 (by decide), c 284 (by decide), c 285 (by decide)]; exact h6
  · rw [j 30 (by decide), j 25 (by decide), c 288 (by decide), c 289 (by decide), c 290 (by decide)]; exact h7
def mrL : Nat → Int → Mem → Int × Mem
  | 0, f, μ => (f, μ)
  | n + 1, f, μ => if ¬ f = 0 then (f, μ) else if sgm μ (hB μ) < 0 then (0, heM μ) else mrL n (tkC (heM μ)).1 (tkC (heM μ)).2
theorem mrL_s {n : Nat} {f : Int} {μ : Mem} : mrL (n + 1) f μ = if ¬ f = 0 then (f, μ) else if sgm μ (hB μ) < 0 then (0, heM μ) else mrL n (tkC (heM μ)).1 (tkC (heM μ)).2 := rfl
theorem mrL_n {n : Nat} {f : Int} {μ : Mem} (h : ¬ f = 0) : mrL n f μ = (f, μ) := by
  cases n with
  | zero => rfl
  | succ n => rw [mrL_s, if_pos h]
theorem mrL_r : ∀ (n : Nat) (f : Int) (μ : Mem), (0 ≤ f ∧ f ≤ 4) → (f = 0 → PRI μ ∧ μ 256 18 - μ 256 20 < n) → (0 ≤ (mrL n f μ).1 ∧ (mrL n f μ).1 ≤ 4) ∧ ((mrL n f μ).1 = 0 → PRI (mrL n f μ).2) ∧ FPm μ (mrL n f μ).2 := by
  intro n
  induction n with
  | zero => intro f μ hf h; exact ⟨hf, fun q => (h q).1, FPm.rf μ⟩
  | succ n ih =>
    intro f μ hf h
    rw [mrL_s]
    split
    · rename_i q
      exact ⟨hf, fun q2 => absurd q2 q, FPm.rf μ⟩
    · rename_i q
      have h1 := h (by omega)
      split
      · exact ⟨by dsimp only; omega, fun _ => PRI_he h1.1, FP_he μ⟩
      · have hh := PRI_he h1.1
        have q1 := hB_rg h1.1.1.1
        have := ih (tkC (heM μ)).1 (tkC (heM μ)).2 (tkC_f hh.1) (fun q2 => by
          have g := tkC_ok hh q2
          refine ⟨g.1, ?_⟩
          rw [g.2.2, heM_j (by decide)]
          have g2 := g.2.1
          rw [heM_20] at g2
          omega)
        exact ⟨this.1, this.2.1, ((FP_he μ).tr (FP_tkC _)).tr this.2.2⟩

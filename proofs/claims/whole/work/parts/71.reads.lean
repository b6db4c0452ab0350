/-! reading: the whole text -/
def JJ (c m : Mem) : Prop := J0 c m ∧ RI c ∧ PRI m
theorem clause_rel {c m : Mem} (h : JJ c m) : CR (rCl c) (tkC m) := by
  obtain ⟨⟨j1, j2, j3, j4, j5, j6⟩, hR, hI⟩ := h
  obtain ⟨k0, k1, k2, kw⟩ := kd_iff j1 j2
  have hrg := kd_rg m
  have wok := wOk_rw hI.1
  have hIt := PRI_m (PRI_rw hI) wok
  have wc : ∀ k, k ≠ 64 → wM c k = c k := fun k q => mu_ne q
  have w3 : wM c 64 3 = 0 := by unfold wM; rw [mu_j (by decide)]; exact j3
  have w4 : wM c 64 4 = -1 := by unfold wM; rw [mu_j (by decide)]; exact j4
  have tj : ∀ j, j ≠ 20 → j ≠ 21 → j ≠ 22 → tCm (rwM m) 256 j = m 256 j := fun j a b d => by rw [tCm_j a, rwM_j a b d]
  have tc : ∀ k, k ≠ 256 → tCm (rwM m) k = m k := fun k q => by unfold tCm; rw [mu_ne q, rwM_c q]
  have es : sgm (tCm (rwM m)) = sgm m := sgm_cg (tj 18 (by decide) (by decide) (by decide)) (tc 274 (by decide))
  have ew : sg (wM c) = sg c := sg_c (by decide) (by decide)
  have hps : PS (wM c) (tCm (rwM m)) := by
    refine ⟨by rw [ew, es]; exact j1, ?_, RI_wM hR, hIt.1.1⟩
    unfold nB hB
    rw [ew, es, j1]
    have e1 : wM c 64 2 = wE c := mu_h
    have e2 : tCm (rwM m) 256 20 = hW m := by unfold tCm; rw [mu_h, rwM_22]
    rw [e1, e2, kw]
  have hD : DRJ (wM c) (tCm (rwM m)) := DRJ_c (fun k a b => wc k (by omega)) (DRJ_m (tj 25 (by decide) (by decide) (by decide)) (tj 26 (by decide) (by decide) (by decide)) (tj 30 (by decide) (by decide) (by decide)) (fun k a b => tc k (by omega)) j6)
  have hm19 : tCm (rwM m) 256 19 = -1 := by rw [tj 19 (by decide) (by decide) (by decide)]; exact j5
  have r25 : rwM m 256 25 = m 256 25 := rwM_j (by decide) (by decide) (by decide)
  have r26 : rwM m 256 26 = m 256 26 := rwM_j (by decide) (by decide) (by decide)
  have r30 : rwM m 256 30 = m 256 30 := rwM_j (by decide) (by decide) (by decide)
  have p48 : wM c 48 0 = m 256 25 := by rw [wc 48 (by decide)]; exact j6.1.1
  have p481 : wM c 48 1 = m 256 26 := by rw [wc 48 (by decide)]; exact j6.1.2.1
  have p482 : wM c 48 2 = m 256 30 := by rw [wc 48 (by decide)]; exact j6.1.2.2
  have hM := hI.1
  have bl : ∀ k : Int, ¬ k = 0 → ∀ Y : Int × Mem, Y = (k, mu (rwM m) 256 19 (rwM m 256 20)) → CR (blm (wM c) k (c 64 2)) Y := fun k hk Y hY => by
    rw [hY]
    refine Or.inr ⟨hk, ?_, ?_⟩
    · rw [blm_0 w3, mu_j (by decide), mu_h]
    · rw [blm_0 w3, mu_h]
      show c 64 2 = mu (rwM m) 256 19 (rwM m 256 20) 256 19
      rw [mu_h, rwM_20]; exact j2
  unfold tkC
  rcases hrg with q | q | q | q
  · rw [q, tC_a (Or.inl (by decide))]
    have : rCl c = blm (wM c) 1 (c 64 2) := by unfold rCl; rw [if_neg (fun z => by have := k0.mp z; omega), if_neg (fun z => by have := k1.mp z.2; omega), if_neg (fun z => by have := k2.mp z.2; omega)]
    rw [this]
    exact bl 1 (by decide) _ rfl
  · rw [q]
    have e : rCl c = rPl (wM c) (c 64 2) := by unfold rCl; rw [if_pos (k0.mpr q)]
    rw [e]
    have na : ¬ tCa (rwM m) 0 := by unfold tCa; omega
    by_cases d : 0 < m 256 25
    · rw [tC_b na (Or.inl ⟨rfl, by rw [r25]; exact d⟩)]
      have : rPl (wM c) (c 64 2) = blm (wM c) 3 (c 64 2) := by unfold rPl; rw [if_pos (by omega)]
      rw [this]
      exact bl 3 (by decide) _ rfl
    · rw [tC_c na (by unfold tCb; rw [r25]; omega)]
      have : tCp (rwM m) 0 = tC0 (rwM m) := by unfold tCp; rw [if_pos rfl]
      rw [this]
      exact cl_places hps w3 w4 hm19 hD (by omega) rfl
  · rw [q]
    have n0 : ¬ isWd (wM c) (c 64 2) 0 := fun z => by have := k0.mp z; omega
    by_cases d0 : m 256 25 = 0
    · rw [tC_a (Or.inr ⟨by decide, by rw [r25]; exact d0⟩)]
      have : rCl c = blm (wM c) 1 (c 64 2) := by unfold rCl; rw [if_neg n0, if_neg (fun z => by omega), if_neg (fun z => by omega)]
      rw [this]
      exact bl 1 (by decide) _ rfl
    · have na : ¬ tCa (rwM m) 1 := by unfold tCa; rw [r25]; omega
      have e : rCl c = rRd (wM c) (c 64 2) := by unfold rCl; rw [if_neg n0, if_pos ⟨by have := hM.2.2.1; omega, k1.mpr q⟩]
      rw [e]
      by_cases d : m 256 26 = 14
      · rw [tC_b na (Or.inr (Or.inl ⟨rfl, by rw [r26]; exact d⟩))]
        have : rRd (wM c) (c 64 2) = blm (wM c) 3 (c 64 2) := by unfold rRd; rw [if_pos (by omega)]
        rw [this]
        exact bl 3 (by decide) _ rfl
      · rw [tC_c na (by unfold tCb; rw [r26]; omega)]
        have : tCp (rwM m) 1 = tkR (tCm (rwM m)) := by unfold tCp; rw [if_neg (by decide), if_pos rfl]
        rw [this]
        exact cl_road hps hIt w3 w4 hm19 hD (by rw [tj 26 (by decide) (by decide) (by decide)]; have := hM.2.1.1; omega)
  · rw [q]
    have n0 : ¬ isWd (wM c) (c 64 2) 0 := fun z => by have := k0.mp z; omega
    have n1 : ¬ isWd (wM c) (c 64 2) 1 := fun z => by have := k1.mp z; omega
    by_cases d0 : m 256 25 = 0
    · rw [tC_a (Or.inr ⟨by decide, by rw [r25]; exact d0⟩)]
      have : rCl c = blm (wM c) 1 (c 64 2) := by unfold rCl; rw [if_neg n0, if_neg (fun z => by omega), if_neg (fun z => by omega)]
      rw [this]
      exact bl 1 (by decide) _ rfl
    · have na : ¬ tCa (rwM m) 2 := by unfold tCa; rw [r25]; omega
      have e : rCl c = rTv (wM c) (c 64 2) := by unfold rCl; rw [if_neg n0, if_neg (fun z => n1 z.2), if_pos ⟨by have := hM.2.2.1; omega, k2.mpr q⟩]
      rw [e]
      by_cases d : m 256 30 = 20
      · rw [tC_b na (Or.inr (Or.inr ⟨rfl, by rw [r30]; exact d⟩))]
        have : rTv (wM c) (c 64 2) = blm (wM c) 3 (c 64 2) := by unfold rTv; rw [if_pos (by omega)]
        rw [this]
        exact bl 3 (by decide) _ rfl
      · rw [tC_c na (by unfold tCb; rw [r30]; omega)]
        have : tCp (rwM m) 2 = tkT (tCm (rwM m)) := by unfold tCp; rw [if_neg (by decide), if_neg (by decide)]
        rw [this]
        exact cl_travel hps hIt w3 w4 hm19 hD (by rw [tj 30 (by decide) (by decide) (by decide)]; have := hM.2.2.2; omega)
theorem hB_nb {m : Mem} (h : MX m) : ¬ bC (sgm m) (hB m) := skG_fix (L := m 256 18) (fun a q => (sgm_lt (a := a) (by have : sgm m a = 32 := q; omega)).2) 400 _ (by have := h.1; have := h.2.2; omega)
theorem hB_he {m : Mem} (h : MX m) : hB (heM m) = hB m := by
  have := hB_nb h
  unfold hB at this ⊢
  rw [sgm_he, heM_20]
  exact skG_id this 400
theorem JJ_he {c m : Mem} (h : JJ c m) : JJ c (heM m) := by
  obtain ⟨⟨j1, j2, j3, j4, j5, j6⟩, hR, hI⟩ := h
  exact ⟨⟨by rw [sgm_he]; exact j1, by rw [hB_he hI.1.1]; exact j2, j3, j4, by rw [heM_j (by decide)]; exact j5, DRJ_m (heM_j (by decide)) (heM_j (by decide)) (heM_j (by decide)) (fun k a b => heM_c (by omega)) j6⟩, hR, PRI_he hI⟩
theorem rdL_st {x : Mem} (h : ¬ x 64 3 = 0) : ∀ n : Nat, rdL n x = x := by
  intro n
  cases n with
  | zero => rfl
  | succ n => rw [rdL_s, if_neg (fun z => h z.1)]
/-- what comes of a text -/
def TR (X : Mem) (Y : Int × Mem) : Prop := (Y.1 = 0 ∧ X 64 3 = 0 ∧ X 64 4 = -1 ∧ Y.2 256 19 = -1 ∧ DRJ X Y.2) ∨ (¬ Y.1 = 0 ∧ X 64 3 = Y.1 ∧ X 64 4 = Y.2 256 19)
theorem read_rel : ∀ (k n : Nat) (c m : Mem), JJ c m → c 16 1 = m 256 18 → m 256 18 - c 64 2 ≤ n → m 256 18 - m 256 20 < k → TR (rdL n c) (mrL k 0 m) := by
  intro k
  induction k with
  | zero => intro n c m h _ _ hk; have := h.2.2.1.1.2.2; omega
  | succ k ih =>
    intro n c m h hL hn hk
    have hX := h.2.2.1.1
    have j2 := h.1.2.1
    have hbr := hB_rg hX
    rw [mrL_s, if_neg (by decide)]
    by_cases d : sgm m (hB m) < 0
    · rw [if_pos d]
      have hge : ¬ c 64 2 < c 16 1 := fun q => by
        have : sgm m (hB m) = m 274 (hB m).toNat := sgm_in (by have := hX.2.2; omega)
        have := hX.2.1 (hB m).toNat
        omega
      have e : rdL n c = c := by
        cases n with
        | zero => rfl
        | succ n => rw [rdL_s, if_neg (fun z => hge z.2)]
      rw [e]
      obtain ⟨⟨i1, i2, i3, i4, i5, i6⟩, _, _⟩ := JJ_he h
      exact Or.inl ⟨rfl, i3, i4, i5, i6⟩
    · rw [if_neg d]
      have hlt : c 64 2 < c 16 1 := by
        have := sgm_lt (μ := m) (a := hB m) (by omega)
        omega
      have hh := JJ_he h
      have cr := clause_rel hh
      cases n with
      | zero => omega
      | succ n =>
        rw [rdL_s, if_pos ⟨h.1.2.2.1, hlt⟩]
        rcases cr with ⟨z, hz⟩ | ⟨z, z1, z2⟩
        · obtain ⟨t1, t2, t3⟩ := tkC_ok hh.2.2 z
          rw [z]
          have e18 : (tkC (heM m)).2 256 18 = m 256 18 := by rw [t3, heM_j (by decide)]
          have hb2 := hB_rg t1.1.1
          have e2 := hz.2.1
          have e16 : skM (rCl c) 16 = c 16 := by rw [skM_c (by decide), rCl_c (by decide) (by decide)]
          rw [heM_20] at t2
          refine ih n _ _ ⟨hz, RI_sk (RI_rCl h.2.1), t1⟩ (by rw [e16, e18]; exact hL) ?_ ?_
          · rw [e18, e2]; omega
          · rw [e18]; omega
        · rw [mrL_n z]
          have e3 : skM (rCl c) 64 3 = (tkC (heM m)).1 := by rw [skM_3]; exact z1
          rw [rdL_st (by rw [e3]; exact z)]
          exact Or.inr ⟨z, e3, by rw [skM_4]; exact z2⟩
/-- the class reads all, the reference reads all -/
theorem parse_rel {μ m : Mem} (hT : TOK μ) (hB8 : B8 μ) (hL : LOK μ 48) (hM : MT m) (h18 : m 256 18 = μ 16 1) (htx : ∀ i : Nat, (i : Int) < μ 16 1 → m 274 i = μ 17 i) : TR (ra2 μ) (mlR m) := by
  have hRI : RI (clr (ra0 μ) 48) := RI_ra1 hT hB8 hL
  have c16 : clr (ra0 μ) 48 16 = μ 16 := by rw [clr_c (by decide) (by decide)]; unfold ra0; rw [mu_ne (by decide), mu_ne (by decide), mu_ne (by decide)]
  have c17 : clr (ra0 μ) 48 17 = μ 17 := by rw [clr_c (by decide) (by decide)]; unfold ra0; rw [mu_ne (by decide), mu_ne (by decide), mu_ne (by decide)]
  have c64 : clr (ra0 μ) 48 64 = ra0 μ 64 := clr_c (by decide) (by decide)
  have r64 : ra0 μ 64 2 = 0 ∧ ra0 μ 64 3 = 0 ∧ ra0 μ 64 4 = -1 := by unfold ra0; rw [mu_j (by decide), mu_j (by decide), mu_h, mu_j (by decide), mu_h, mu_h]; exact ⟨rfl, rfl, rfl⟩
  have e1 : sg (ra1 μ) = sg μ := by
    have a : sg (ra1 μ) = sg (clr (ra0 μ) 48) := sg_c (by decide) (by decide)
    rw [a, sg_cg c16 c17]
  have em : sgm (ml0 m) = sgm m := sgm_cg (ml0_j (by decide)) (ml0_c (by decide))
  have es : sg μ = sgm m := by
    funext a
    unfold sg sgm
    rw [h18]
    by_cases q : 0 ≤ a ∧ a < μ 16 1
    · rw [if_pos q, if_pos q, htx a.toNat (by omega)]
    · rw [if_neg q, if_neg q]
  have hT' : 0 ≤ μ 16 1 ∧ μ 16 1 ≤ 400 := hT
  have hJ : JJ (ra1 μ) (ml0 m) := by
    refine ⟨⟨by rw [e1, em]; exact es, ?_, ?_, ?_, ml0_19, ?_⟩, RI_sk hRI, PRI_ml0 hM⟩
    · show skM (clr (ra0 μ) 48) 64 2 = _
      rw [skM_2]
      unfold nB hB
      rw [sg_cg c16 c17, c64, r64.1, em, ml0_20, es]
    · show skM (clr (ra0 μ) 48) 64 3 = 0
      rw [skM_3, c64]; exact r64.2.1
    · show skM (clr (ra0 μ) 48) 64 4 = -1
      rw [skM_4, c64]; exact r64.2.2
    · have k48 : ∀ k, 48 ≤ k → k ≤ 59 → ra1 μ k = clr (ra0 μ) 48 k := fun k a b => skM_c (by omega)
      refine DRJ_c k48 ⟨⟨?_, ?_, ?_⟩, fun r hr => ?_, fun r hr => ?_, ⟨fun p hp => ?_, fun r p hr => ?_⟩, fun r s _ hs => ?_⟩
      · rw [ml0_25]; unfold clr clr0; rw [mw_c (by decide), mu_j (by decide), mu_j (by decide), mu_h]
      · rw [ml0_26]; unfold clr clr0; rw [mw_c (by decide), mu_j (by decide), mu_h]
      · rw [ml0_30]; unfold clr clr0; rw [mw_c (by decide), mu_h]
      · rw [ml0_26] at hr; omega
      · rw [ml0_30] at hr; omega
      · rw [ml0_26]; unfold clr; rw [mw_s, zr9_get, if_pos (by omega)]; rfl
      · rw [ml0_26] at hr; exact absurd hr (Nat.not_lt_zero _)
      · rw [ml0_26] at hs; exact absurd hs (Nat.not_lt_zero _)
  have e18 : ml0 m 256 18 = m 256 18 := ml0_j (by decide)
  have r16 : ra1 μ 16 = μ 16 := by show skM (clr (ra0 μ) 48) 16 = _; rw [skM_c (by decide), c16]
  have hnn : 0 ≤ ra1 μ 64 2 := hJ.2.1.2.2.1.1
  exact read_rel 402 400 (ra1 μ) (ml0 m) hJ (by rw [r16, e18, h18]) (by rw [e18, h18]; omega) (by rw [e18, h18, ml0_20]; omega)

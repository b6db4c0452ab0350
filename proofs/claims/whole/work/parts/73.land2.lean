theorem ARM_u2 {f g l f2 g2 l2 D D' Q Q' : Row} {s p t : Nat} {v w : Int} (hd : ∀ i, i < s → (lds f g l D Q p t i ↔ lds f2 g2 l2 D' Q' p t i)) (he : dd D p t = dd D' p t) (h1 : ARM f g l D Q s p t v) (h2 : ARM f2 g2 l2 D' Q' s p t w) : v = w := by
  rcases h1 with ⟨a1, a2⟩ | ⟨k, a1, a2, a3, a4, a5, a6⟩
  · rcases h2 with ⟨b1, b2⟩ | ⟨j, b1, b2, b3, b4, b5, b6⟩
    · rw [a1, b1]
    · exfalso
      rcases a2 with z | z | z
      · exact b3 z
      · omega
      · exact z j b2 ((hd j b2).mpr b5)
  · rcases h2 with ⟨b1, b2⟩ | ⟨j, b1, b2, b3, b4, b5, b6⟩
    · exfalso
      rcases b2 with z | z | z
      · exact a3 z
      · omega
      · exact z k a2 ((hd k a2).mp a5)
    · rw [a1, b1]
      have : k = j := by
        by_cases c : k = j
        · exact c
        · exfalso
          rcases (show k < j ∨ j < k by omega) with z | z
          · exact b6 k z ((hd k a2).mp a5)
          · exact a6 j z ((hd j b2).mpr b5)
      rw [this]
theorem ra2_RI {μ : Mem} (hT : TOK μ) (hB : B8 μ) (hL : LOK μ 48) : RI (ra2 μ) := (RJ_rdL 400 (ra1 μ) (RI_sk (RI_ra1 hT hB hL)) DL_ra1).1
/-- a text that tells a land -/
theorem land_ok {μ g1 m R x1 x2 x3 ν : Mem} (H : REL μ) (hk : ra2 μ 64 3 = 0) (hf4 : ra2 μ 64 4 = -1) (hLB : LBc (lA μ) g1) (hLOK : LOK g1 32) (hm : m = cl4 (sAll 80 (g1 32 0).toNat 0 g1)) (hR : FPm m R) (h19 : R 256 19 = -1) (hD : DRJ (ra2 μ) R) (hI : PRI R) (hx1 : CPk 259 284 14 (ml1 R) x1) (hx2 : CPk 263 288 20 x1 x2) (hx3 : FLm x2 x3) (hMB : MB x3) (hν : ν = ml9 (mrt (ishl 1 (x2 256 0) - 1) (x2 256 0).toNat 0 0 x3).2) : REL ν ∧ x2 256 0 = m 32 0 := by
  obtain ⟨hT, hB, hM, hc, hq⟩ := H.2.2.2.2.2.1
  have hL48 := H.2.2.2.2.2.2.2.2.2.2.1
  have hMBμ := H.2.2.2.2.2.2.2.2.1
  obtain ⟨P, eP⟩ : ∃ P : Nat, R 256 25 = (P : Int) := ⟨(R 256 25).toNat, by have := hI.1.2.2.1; omega⟩
  obtain ⟨N, eN⟩ : ∃ N : Nat, R 256 26 = (N : Int) := ⟨(R 256 26).toNat, by have := hI.1.2.1.1; omega⟩
  obtain ⟨T, eT⟩ : ∃ T : Nat, R 256 30 = (T : Int) := ⟨(R 256 30).toNat, by have := hI.1.2.2.2; omega⟩
  have hP : P ≤ 9 := by have := hI.1.2.2.1; omega
  have hN : N ≤ 14 := by have := hI.1.2.1.1; omega
  have hT20 : T ≤ 20 := by have := hI.1.2.2.2; omega
  have etN : (R 256 26).toNat = N := by omega
  have hV : Vr (R 284) (R 285) (R 286) N P := fun r hr => by have := hI.2.1 r (by omega); rw [eP] at this; exact this
  obtain ⟨⟨d0, d1, d2⟩, d4, d5, d6, d7⟩ := hD
  rw [etN] at d6 d7
  rw [eP] at d0
  rw [eN] at d1 d4
  rw [eT] at d2 d5
  have c5 : ∀ p, cnt (R 284) (R 285) p N ≤ 5 := fun p => by have := hI.2.2.1 p; rw [etN] at this; exact this
  have tv : ∀ k : Nat, k < T → (0 ≤ R 288 k ∧ R 288 k < P) ∧ (0 ≤ R 289 k ∧ R 289 k < P) ∧ (1 ≤ R 290 k ∧ R 290 k ≤ 99) := fun k hk => by have := hI.2.2.2 k (by omega); rw [eP] at this; exact ⟨this.1, this.2.1, this.2.2.2⟩
  -- the draft
  have hRI := ra2_RI hT hB hL48
  have hLd : LOK (ra2 μ) 48 := RI_l48 hRI
  obtain ⟨d, ed⟩ : ∃ d, d = ra2 μ := ⟨_, rfl⟩
  rw [← ed] at d0 d1 d2 d4 d5 d6 hLd
  have eA : rAll μ = svy d 48 := by unfold rAll; rw [if_pos hk, ed]
  have aC : ∀ k, k ≠ 60 → k ≠ 61 → k ≠ 16 → lA μ k = d k := fun k q1 q2 q3 => by unfold lA; rw [mu_ne q3, eA]; unfold svy; rw [mw_ne q1, mw_ne q2]
  obtain ⟨D, eD⟩ : ∃ D, D = svD d 48 := ⟨_, rfl⟩
  have a60 : lA μ (48 + 12) = ngR 81 0 D := by unfold lA; rw [mu_ne (by decide), eA, eD]; unfold svy; rw [mw_self]
  have a61 : lA μ (48 + 13) = fAo (lta (mw d (48 + 12) D) 48) 9 0 (d (48 + 13)) := by unfold lA; rw [mu_ne (by decide), eA, eD]; unfold svy; rw [mw_ne (by decide), mw_self]
  have st0 := FI_st hP hV d7 (D0 := d (48 + 12)) (fun x => hLd.rg 12 x)
  have eDm : D = mfO P 0 (edM (R 284) (R 285) (R 286) N 0 (fillR 81 0 (d (48 + 12)))) := by
    rw [eD]
    unfold svD stD
    rw [fwN_eq 9 0 _ (by decide) (by decide), d1, Int.toNat_natCast]
    have := edgR_eq (d := d) d0 d1 hV (fun r hr => d4 r (by omega)) N 0 (fillR 81 0 (d (48 + 12))) (by omega)
    rw [show ((0 : Nat) : Int) = 0 from rfl] at this
    rw [this]
    exact mfO_9 hP st0
  have hFI : FI (edg (R 284) (R 285) (R 286) N) P P D := by
    have := FI_n hP P 0 _ (by omega) st0
    rw [Nat.zero_add, show ((0 : Nat) : Int) = 0 from rfl] at this
    rw [eDm]; exact this
  -- the ground
  obtain ⟨b1, ⟨b20, b21, b22⟩, b4, b5, b6, b7, b8, b9, b10, b11, b12, b13⟩ := id hLB
  have nlow : ∀ k, k < 256 → ν k = m k := fun k hk => by
    rw [hν]
    unfold ml9
    rw [mu_ne (by omega), mu_ne (by omega), mu_ne (by omega), mu_ne (by omega), mrt_c (by omega) (by omega) (by omega), hx3.1 k (by omega), hx2.1 k (by omega) (by omega) (by omega), hx1.1 k (by omega) (by omega) (by omega), ml1_c (by omega), hR.1 k (by omega) (by omega)]
  have mlow : ∀ k, (k ≠ 82 ∧ k ≠ 83 ∧ k ≠ 84 ∧ k ≠ 144 ∧ k ≠ 160 ∧ k ≠ 192 ∧ k ≠ 224) → m k = g1 k := fun k hk => by
    rw [hm]; unfold cl4; rw [mu_ne (by omega), mu_ne (by omega), mu_ne (by omega), mu_ne (by omega), sAll_c (by omega) (by omega) (by omega)]
  have ng : ∀ k, k < 82 → ν k = g1 k := fun k hk => by rw [nlow k (by omega), mlow k (by omega)]
  have g32 : g1 32 0 = (P : Int) := by rw [b20, aC 48 (by decide) (by decide) (by decide)]; exact d0
  have g321 : g1 32 1 = (N : Int) := by rw [b21, aC 48 (by decide) (by decide) (by decide)]; exact d1
  have g322 : g1 32 2 = (T : Int) := by rw [b22, aC 48 (by decide) (by decide) (by decide)]; exact d2
  have gr : ∀ r, r < N → g1 (32 + 4) r = R 284 r ∧ g1 (32 + 5) r = R 285 r ∧ g1 (32 + 6) r = R 286 r := fun r hr => by
    rw [b4, b5, b6, if_pos (by omega), if_pos (by omega), if_pos (by omega), aC _ (by decide) (by decide) (by decide), aC _ (by decide) (by decide) (by decide), aC _ (by decide) (by decide) (by decide)]
    exact d4 r (by omega)
  have gt : ∀ k, k < T → g1 (32 + 7) k = R 288 k ∧ g1 (32 + 8) k = R 289 k ∧ g1 (32 + 9) k = R 290 k := fun k hk => by
    rw [b7, b8, b9, if_pos (by omega), if_pos (by omega), if_pos (by omega), aC _ (by decide) (by decide) (by decide), aC _ (by decide) (by decide) (by decide), aC _ (by decide) (by decide) (by decide)]
    exact d5 k (by omega)
  have gs : ∀ p, p < 9 → g1 (32 + 10) p = d (48 + 10) p := fun p hp => by rw [b10, if_pos hp, aC _ (by decide) (by decide) (by decide)]
  have gq : ∀ i, i < 45 → g1 (32 + 11) i = d (48 + 11) i := fun i hi => by rw [b11, if_pos hi, aC _ (by decide) (by decide) (by decide)]
  have hSd : SdOK (R 284) (R 285) N (g1 (32 + 10)) (g1 (32 + 11)) := by
    refine ⟨fun p hp => by rw [gs p hp]; exact d6.1 p hp, fun r p hr hp hq => ?_⟩
    have cl := cnt_lt (f := R 284) (g := R 285) (p := (p : Int)) hr hq
    have := c5 p
    have cr := (cnt_mono (f := R 284) (g := R 285) (p := (p : Int)) r r (Nat.le_refl _)).1
    rw [gq _ (by omega)]
    exact d6.2 r p hr hp hq
  have hCL : CL g1 32 (R 284) (R 285) (R 286) P N := ⟨⟨g32, g321⟩, ⟨hP, hN⟩, hV, gr, hSd, c5⟩
  have hCd : CL (mw d (48 + 12) D) 48 (R 284) (R 285) (R 286) P N := by
    refine ⟨⟨by rw [mw_c (by decide)]; exact d0, by rw [mw_c (by decide)]; exact d1⟩, ⟨hP, hN⟩, hV, fun r hr => ?_, ?_, c5⟩
    · rw [mw_c (by decide), mw_c (by decide), mw_c (by decide)]; exact d4 r (by omega)
    · rw [mw_ne (by decide), mw_ne (by decide)]; exact d6
  have gD : ∀ x, x < 81 → g1 (32 + 12) x = if 1000000 ≤ D x then -1 else D x := fun x hx => by
    rw [b12, if_pos hx, a60, ngR_get 81 0 D x (by decide)]
    by_cases c : 1000000 ≤ D x
    · rw [if_pos c, if_pos ⟨by omega, c⟩]
    · rw [if_neg c, if_neg (fun z => c z.2)]
  have gA : ∀ p t, p < P → t < P → ARM (R 284) (R 285) (R 286) D (g1 (32 + 11)) (g1 (32 + 10) p).toNat p t (g1 (32 + 13) (p * 9 + t)) := fun p t hp ht => by
    have h1 := lta_ARM hCd hp ht
    rw [mw_self, mw_ne (by decide), mw_ne (by decide)] at h1
    have e : g1 (32 + 13) (p * 9 + t) = lta (mw d (48 + 12) D) 48 p t := by
      rw [b13, if_pos (by omega), a61, fAo_get 9 0 _ _ (by decide), if_pos (by omega), show (p * 9 + t) / 9 = p by omega, show (p * 9 + t) % 9 = t by omega]
    rw [e, gs p (by omega)]
    refine ARM_cg (fun i hi => gq _ ?_) h1
    have := d6.1 p (by omega)
    have := c5 p
    omega
  have hLFg : LF g1 := LF_of hLOK hCL d7 hFI gD gA (fun k hk => by
    rw [g322] at hk
    have a := gt k (by omega)
    rw [a.1, a.2.1, a.2.2]; exact tv k (by omega))
  have hla : LAg g1 ν := fun k a b => ng k (by omega)
  have hLF : LF ν := LF_cg hla hLFg
  -- the posts
  have e0 : (g1 32 0).toNat = P := by omega
  have fr : ∀ p t : Nat, p < P → t < P → gFar g1 32 p t = if 1000000 ≤ dd D p t then -1 else dd D p t := fun p t hp ht => by
    unfold gFar
    rw [if_pos ⟨by omega, by omega⟩, show ((p : Int) * 9 + (t : Int)).toNat = 9 * p + t by omega]
    exact gD _ (by omega)
  have mch := sAll_ch P 0 g1 (by decide)
  have m8 : ∀ k, (k = 82 ∨ k = 83 ∨ k = 84) → ν k = sAll 80 P 0 g1 k := fun k hk => by
    rw [nlow k (by omega), hm, e0]; unfold cl4; rw [mu_ne (by omega), mu_ne (by omega), mu_ne (by omega), mu_ne (by omega)]
  have gold : ∀ k, 46 ≤ k → (k < 48 ∨ 61 < k) → k ≠ 64 → g1 k = μ k := fun k h1 h2 h3 => by rw [b1 k (by omega) (by omega), lA_c h2 h3 (by omega)]
  have v82 : ∀ p : Nat, p < P → ν (80 + 2) p = 0 := fun p hp => by rw [m8 _ (by decide), mch, if_pos ⟨Or.inl rfl, by omega⟩]
  have v83 : ∀ p : Nat, p < P → ν (80 + 3) p = 0 := fun p hp => by rw [m8 _ (by decide), mch, if_pos ⟨Or.inr rfl, by omega⟩]
  have v84 : ∀ p t : Nat, p < P → t < P → ν (80 + 4) (p * 9 + t) = if 1000000 ≤ dd D p t then -1 else dd D p t := fun p t hp ht => by
    rw [m8 _ (by decide), mch, if_neg (fun z => by omega), show (p * 9 + t) / 9 = p by omega, show (p * 9 + t) % 9 = t by omega, if_pos ⟨rfl, by omega⟩]
    exact fr p t hp ht
  have hPOK : POK ν 80 := by
    refine ⟨fun p => ?_, fun p => ?_, fun p => ?_⟩
    · rw [m8 _ (by decide), mch]; split
      · decide
      · rw [if_neg (fun z => by omega), gold _ (by decide) (by decide) (by decide)]; exact H.2.1.1.1 p
    · rw [m8 _ (by decide), mch]; split
      · decide
      · rw [if_neg (fun z => by omega), gold _ (by decide) (by decide) (by decide)]; exact H.2.1.1.2.1 p
    · rw [m8 _ (by decide), mch, if_neg (fun z => by omega)]; split
      · have := hLFg.far (p / 9 : Nat) (p % 9 : Nat); omega
      · rw [gold _ (by decide) (by decide) (by decide)]; exact H.2.1.1.2.2 p
  have n0 : ν 32 0 = (P : Int) := by rw [ng 32 (by decide)]; exact g32
  have n1 : ν 32 1 = (N : Int) := by rw [ng 32 (by decide)]; exact g321
  have n2 : ν 32 2 = (T : Int) := by rw [ng 32 (by decide)]; exact g322
  have dlt : ∀ p t : Nat, p < P → t < P → ¬ g1 (32 + 13) (p * 9 + t) = -1 → dd D p t < 1000000 := fun p t hp ht h => by
    rcases gA p t hp ht with ⟨z, _⟩ | ⟨k, _, _, _, z, _⟩
    · exact absurd z h
    · exact z
  have drg : ∀ p t : Nat, p < P → t < P → 0 ≤ dd D p t ∧ dd D p t ≤ 1000000 := fun p t hp ht => dd_rg hFI.1 (by omega) (by omega)
  have hPO : PO ν 80 := by
    refine ⟨hPOK, fun p hp hs => ?_, fun p t hp ht => ?_⟩
    · rw [n0] at hp; rw [v82 p (by omega)]; exact hs
    · rw [n0] at hp ht
      have r := drg p t (by omega) (by omega)
      rw [v84 p t (by omega) (by omega), ng (32 + 13) (by decide), ng (32 + 12) (by decide)]
      refine ⟨fun z => ?_, fun z => ?_⟩
      · have := dlt p t (by omega) (by omega) z
        rw [if_neg (by omega)]; omega
      · rw [gD (p * 9 + t) (by omega)]
        show (if 1000000 ≤ D (9 * p + t) then -1 else D (9 * p + t)) = _
        rw [show p * 9 + t = 9 * p + t by omega]
  -- the reference
  have x256 : ∀ j, x2 256 j = ml1 R 256 j := fun j => by rw [hx2.1 256 (by decide) (by decide) (by decide), hx1.1 256 (by decide) (by decide) (by decide)]
  have y0 : x2 256 0 = (P : Int) := by rw [x256]; unfold ml1; rw [mu_j (by decide), mu_j (by decide), mu_h]; exact eP
  have y1 : x2 256 1 = (N : Int) := by rw [x256]; unfold ml1; rw [mu_j (by decide), mu_h]; exact eN
  have y5 : x2 256 5 = (T : Int) := by rw [x256]; unfold ml1; rw [mu_h]; exact eT
  have y18 : x2 256 18 = 0 := by rw [x256]; unfold ml1; rw [mu_j (by decide), mu_j (by decide), mu_j (by decide), mu_h]
  have yj : ∀ j, j ≠ 0 → j ≠ 1 → j ≠ 5 → j ≠ 18 → x2 256 j = R 256 j := fun j h0 h1 h5 h18 => by rw [x256]; unfold ml1; rw [mu_j h5, mu_j h1, mu_j h0, mu_j h18]
  have x59 : ∀ r, r < 14 → x2 259 r = R 284 r ∧ x2 260 r = R 285 r ∧ x2 261 r = R 286 r := fun r hr => by
    rw [hx2.1 259 (by decide) (by decide) (by decide), hx2.1 260 (by decide) (by decide) (by decide), hx2.1 261 (by decide) (by decide) (by decide), hx1.2.1, hx1.2.2.1, hx1.2.2.2, if_pos (by omega), if_pos (by omega), if_pos (by omega), ml1_c (by decide), ml1_c (by decide), ml1_c (by decide)]
    exact ⟨rfl, rfl, rfl⟩
  have x63 : ∀ r, r < 20 → x2 263 r = R 288 r ∧ x2 264 r = R 289 r ∧ x2 265 r = R 290 r := fun r hr => by
    rw [hx2.2.1, hx2.2.2.1, hx2.2.2.2, if_pos (by omega), if_pos (by omega), if_pos (by omega), hx1.1 288 (by decide) (by decide) (by decide), hx1.1 (288 + 1) (by decide) (by decide) (by decide), hx1.1 (288 + 2) (by decide) (by decide) (by decide), ml1_c (by decide), ml1_c (by decide), ml1_c (by decide)]
    exact ⟨rfl, rfl, rfl⟩
  obtain ⟨z1, z2, z3, z4, z5, z6⟩ := hx3
  rw [y1, Int.toNat_natCast] at z4
  rw [y0] at z6
  have hcf : ∀ r, r < N → R 284 r = x2 259 r ∧ R 285 r = x2 260 r := fun r hr => ⟨(x59 r (by omega)).1.symm, (x59 r (by omega)).2.1.symm⟩
  have zS := SdOK_cg hcf z4
  have x268 : x2 268 = μ 268 := by rw [hx2.1 268 (by decide) (by decide) (by decide), hx1.1 268 (by decide) (by decide) (by decide), ml1_c (by decide), hR.1 268 (by decide) (by decide), mlow 268 (by decide), gold 268 (by decide) (by decide) (by decide)]
  have st1 := FI_st hP hV d7 (D0 := x2 268) (by rw [x268]; exact hMBμ.2.2.2.2.1)
  have hE : E81 D (x3 268) := by
    rw [z2, eDm]
    unfold flD
    rw [y0, y1, Int.toNat_natCast, Int.toNat_natCast, edM_cg (f := R 284) (g := R 285) (l := R 286) (N := N) (fun r hr => x59 r (by omega)) N 0 _ (by omega)]
    exact E81_n P 0 _ _ (by omega) st0.1 st0.2.1 st1.1 st1.2.1 (edM_81 N 0 _ _ (fill_81 _ _))
  have hSS : ∀ p : Nat, p < 9 → x3 266 p = g1 (32 + 10) p := fun p hp => by rw [zS.1 p hp, hSd.1 p hp]
  have hQQ : ∀ p i : Nat, p < P → (i : Int) < g1 (32 + 10) p → ∃ r, r < N ∧ g1 (32 + 11) (p * 5 + i) = (r : Int) ∧ x3 267 (p * 5 + i) = (r : Int) := fun p i hp hi => by
    obtain ⟨r, r1, r2, r3, _, _, _, r7⟩ := hCL.side hp hi
    have := zS.2 r p r1 (by omega) r2
    rw [r7, Int.toNat_natCast] at this
    exact ⟨r, r1, r3, this⟩
  have n269 : ∀ p t : Nat, p < P → t < P → x3 269 (p * 9 + t) = g1 (32 + 13) (p * 9 + t) := fun p t hp ht => by
    have e := z6.1 (p * 9 + t) (by omega)
    rw [show (p * 9 + t) / 9 = p by omega, show (p * 9 + t) % 9 = t by omega, y0, if_pos ⟨Or.inl (by omega), by omega⟩] at e
    rw [e]
    have hs := hSS p (by omega)
    have h2 := AR_ARM (f := x2 259) (g := x2 260) (l := x2 261) (D := x3 268) (Q := x3 267) (S := x3 266) (p := p) (t := t)
    rw [hs] at h2
    refine (ARM_u2 (fun i hi => ?_) (hE _ (by omega)) (gA p t hp ht) h2).symm
    obtain ⟨r, r1, r2, r3⟩ := hQQ p i hp (by omega)
    have a := x59 r (by omega)
    have v := hV r r1
    unfold lds
    rw [r2, r3, Int.toNat_natCast, a.1, a.2.1, a.2.2]
    have e1 : D (9 * p + t) = x3 268 (9 * p + t) := hE _ (by omega)
    have e2 : D (9 * (if R 284 r = (p : Int) then R 285 r else R 284 r) + (t : Int)).toNat = x3 268 (9 * (if R 284 r = (p : Int) then R 285 r else R 284 r) + (t : Int)).toNat := hE _ (by split <;> omega)
    rw [e1, e2]
  obtain ⟨S, eS⟩ : ∃ S, S = (mrt (ishl 1 (x2 256 0) - 1) (x2 256 0).toNat 0 0 x3).2 := ⟨_, rfl⟩
  rw [← eS] at hν
  have x30 : x3 256 = x2 256 := z1 256 (by decide)
  have mr := (mrt_ch (s := ishl 1 (x2 256 0) - 1) (x2 256 0).toNat 0 0 x3 (by decide) (by rw [x30, y0]; omega)).2
  rw [← eS] at mr
  rw [y0, Int.toNat_natCast, x30, y0] at mr
  have Sc : ∀ c, c ≠ 270 → c ≠ 271 → c ≠ 272 → S c = x3 c := fun c a b d => by rw [eS]; exact mrt_c a b d _ _ _ _
  have nS : ∀ c, c ≠ 256 → c ≠ 312 → ν c = S c := fun c a b => by rw [hν]; unfold ml9; rw [mu_ne b, mu_ne b, mu_ne a, mu_ne a]
  have n256 : ∀ j, j ≠ 41 → j ≠ 49 → ν 256 j = x2 256 j := fun j a b => by rw [hν]; unfold ml9; rw [mu_c (by decide), mu_c (by decide), mu_j b, mu_j a, Sc 256 (by decide) (by decide) (by decide), x30]
  have nx : ∀ c, c ≠ 256 → c ≠ 312 → (c < 266 ∨ 272 < c) → ν c = x2 c := fun c a b d => by rw [nS c a b, Sc c (by omega) (by omega) (by omega), z1 c (by omega)]
  have fb := full_hb hP
  have w270 : ∀ p : Nat, p < P → ν 270 p = 0 := fun p hp => by rw [nS 270 (by decide) (by decide), mr, if_pos ⟨Or.inl rfl, by omega, fb p hp⟩]
  have w271 : ∀ p : Nat, p < P → ν 271 p = 0 := fun p hp => by rw [nS 271 (by decide) (by decide), mr, if_pos ⟨Or.inr rfl, by omega, fb p hp⟩]
  have w272 : ∀ p t : Nat, p < P → t < P → ν 272 (p * 9 + t) = dd D p t := fun p t hp ht => by
    rw [nS 272 (by decide) (by decide), mr, if_neg (fun z => by omega), show (p * 9 + t) / 9 = p by omega, show (p * 9 + t) % 9 = t by omega, if_pos ⟨rfl, ⟨by omega, fb p hp⟩, by omega⟩, show p * 9 + t = 9 * p + t by omega]
    exact (hE _ (by omega)).symm
  have hRM : RM ν := by
    refine ⟨⟨by rw [n256 0 (by decide) (by decide), y0, n0], by rw [n256 1 (by decide) (by decide), y1, n1], by rw [n256 5 (by decide) (by decide), y5, n2]⟩, fun r hr => ?_, fun k hk => ?_, fun p hp => ?_, fun p t hp ht => ?_, fun p hp => ?_, fun p t hp ht hx => ?_⟩
    · rw [n1] at hr
      have a := x59 r (by omega)
      have b := gr r (by omega)
      rw [nx 259 (by decide) (by decide) (by decide), nx 260 (by decide) (by decide) (by decide), nx 261 (by decide) (by decide) (by decide), ng _ (by decide), ng _ (by decide), ng _ (by decide), a.1, a.2.1, a.2.2, b.1, b.2.1, b.2.2]
      exact ⟨rfl, rfl, rfl⟩
    · rw [n2] at hk
      have a := x63 k (by omega)
      have b := gt k (by omega)
      rw [nx 263 (by decide) (by decide) (by decide), nx 264 (by decide) (by decide) (by decide), nx 265 (by decide) (by decide) (by decide), ng _ (by decide), ng _ (by decide), ng _ (by decide), a.1, a.2.1, a.2.2, b.1, b.2.1, b.2.2]
      exact ⟨rfl, rfl, rfl⟩
    · rw [n0] at hp
      rw [nS 266 (by decide) (by decide), Sc 266 (by decide) (by decide) (by decide), nS 267 (by decide) (by decide), Sc 267 (by decide) (by decide) (by decide), ng (32 + 10) (by decide), ng (32 + 11) (by decide)]
      refine ⟨hSS p (by omega), fun i hi => ?_⟩
      obtain ⟨r, r1, r2, r3⟩ := hQQ p i (by omega) hi
      rw [r2, r3]
    · rw [n0] at hp ht
      rw [nS 269 (by decide) (by decide), Sc 269 (by decide) (by decide) (by decide), nS 268 (by decide) (by decide), Sc 268 (by decide) (by decide) (by decide), ng (32 + 12) (by decide), ng (32 + 13) (by decide)]
      refine ⟨n269 p t (by omega) (by omega), ?_⟩
      have r := drg p t (by omega) (by omega)
      have e1 : x3 268 (p * 9 + t) = dd D p t := by rw [show p * 9 + t = 9 * p + t by omega]; exact (hE _ (by omega)).symm
      have e2 : g1 (32 + 12) (p * 9 + t) = if 1000000 ≤ dd D p t then -1 else dd D p t := by rw [gD (p * 9 + t) (by omega), show p * 9 + t = 9 * p + t by omega]
      rw [e1, e2]
      by_cases c : 1000000 ≤ dd D p t
      · rw [if_pos c, if_pos rfl]; omega
      · rw [if_neg c, if_neg (by omega)]
    · rw [n0] at hp
      rw [w270 p (by omega), w271 p (by omega), v82 p (by omega), v83 p (by omega)]
      exact ⟨rfl, rfl⟩
    · rw [n0] at hp ht
      rw [ng (32 + 13) (by decide)] at hx
      have := dlt p t (by omega) (by omega) hx
      rw [w272 p t (by omega) (by omega), v84 p t (by omega) (by omega), if_neg (by omega)]
  -- all else
  have hMBν : MB ν := by
    have hs : MB S := by rw [eS]; exact mrt_MB _ _ _ _ hMB
    refine MB_cg ?_ ?_ (fun k a b => nS k (by omega) (by omega)) hs
    · rw [n256 0 (by decide) (by decide), Sc 256 (by decide) (by decide) (by decide), x30]
    · rw [n256 16 (by decide) (by decide), Sc 256 (by decide) (by decide) (by decide), x30]
  have R256 : ∀ j, (j < 19 ∨ (26 < j ∧ j ≠ 30)) → R 256 j = μ 256 j := fun j hj => by rw [hR.2 j hj, mlow 256 (by decide), gold 256 (by decide) (by decide) (by decide)]
  have hh : ∀ k, (256 < k ∧ (k < 259 ∨ 272 < k) ∧ (k < 284 ∨ 290 < k) ∧ k ≠ 312) → ν k = μ k := fun k hk => by
    rw [nx k (by omega) (by omega) (by omega), hx2.1 k (by omega) (by omega) (by omega), hx1.1 k (by omega) (by omega) (by omega), ml1_c (by omega), hR.1 k (by omega) (by omega), mlow k (by omega), gold k (by omega) (by omega) (by omega)]
  have hl2 : ∀ k, 62 ≤ k → k < 256 → (k ≠ 64 ∧ k ≠ 82 ∧ k ≠ 83 ∧ k ≠ 84 ∧ k ≠ 144 ∧ k ≠ 160 ∧ k ≠ 192 ∧ k ≠ 224) → ν k = μ k := fun k h1 h2 h3 => by
    rw [nlow k h2, mlow k (by omega), gold k (by omega) (by omega) (by omega)]
  have m144 : ν 144 4 = 0 := by rw [nlow 144 (by decide), hm]; unfold cl4; rw [mu_c (by decide), mu_c (by decide), mu_c (by decide), mu_h]
  have m160 : ν 160 4 = 0 := by rw [nlow 160 (by decide), hm]; unfold cl4; rw [mu_c (by decide), mu_c (by decide), mu_h]
  have m192 : ν 192 2 = 0 := by rw [nlow 192 (by decide), hm]; unfold cl4; rw [mu_c (by decide), mu_h]
  have m224 : ν 224 2 = 0 := by rw [nlow 224 (by decide), hm]; unfold cl4; rw [mu_h]
  have n41 : ν 256 41 = 0 := by rw [hν]; unfold ml9; rw [mu_c (by decide), mu_c (by decide), mu_j (by decide), mu_h]
  have n49 : ν 256 49 = 0 := by rw [hν]; unfold ml9; rw [mu_c (by decide), mu_c (by decide), mu_h]
  have n312 : ∀ j, ν 312 j = if j = 1 then 0 else if j = 0 then 0 else μ 312 j := fun j => by
    rw [hν]; unfold ml9
    rw [mu_ap, mu_ap, mu_c (by decide), mu_c (by decide)]
    by_cases c1 : j = 1
    · rw [if_pos ⟨rfl, c1⟩, if_pos c1]
    · rw [if_neg (fun z => c1 z.2), if_neg c1]
      by_cases c0 : j = 0
      · rw [if_pos ⟨rfl, c0⟩, if_pos c0]
      · rw [if_neg (fun z => c0 z.2), if_neg c0, Sc 312 (by decide) (by decide) (by decide), z1 312 (by decide), hx2.1 312 (by decide) (by decide) (by decide), hx1.1 312 (by decide) (by decide) (by decide), ml1_c (by decide), hR.1 312 (by decide) (by decide), mlow 312 (by decide), gold 312 (by decide) (by decide) (by decide)]
  have i312 : ν 312 0 = 0 ∧ ν 312 1 = 0 := ⟨by rw [n312]; rfl, by rw [n312]; rfl⟩
  have l16 : ν 16 1 = 0 := by rw [ng 16 (by decide), b1 16 (by decide) (by decide)]; exact mu_h
  have l17 : ν 17 = μ 17 := by rw [ng 17 (by decide), b1 17 (by decide) (by decide), lA_c (by decide) (by decide) (by decide)]
  obtain ⟨i0, i1, iB⟩ := H.2.2.2.2.2.2.2.2.2.1
  refine ⟨⟨hLF, hPO, hRM, ⟨⟨by rw [n41, m144], by rw [m144]; decide, fun k hk => by rw [m144] at hk; omega⟩, ⟨by rw [m144]; decide, fun k j a b => by rw [hl2 k (by omega) (by omega) (by omega)]; exact H.2.2.2.1.2.2 k j a b⟩⟩, ⟨⟨by rw [n49, m160], by rw [m160]; decide, fun k hk => by rw [m160] at hk; omega⟩, ⟨by rw [m160]; decide, fun k j a b => by rw [hl2 k (by omega) (by omega) (by omega)]; exact H.2.2.2.2.1.2.2 k j a b⟩⟩, ⟨?_, ?_, ⟨?_, ?_⟩, ?_, fun i hi => ?_⟩, ?_, ⟨?_, ?_⟩, hMBν, ⟨⟨?_, Or.inl i312.1, ?_, fun q => ?_⟩, ⟨?_, Or.inl i312.2, ?_, fun q => ?_⟩, ⟨?_, fun j => ?_⟩⟩, ?_, fun k hk => by rw [m144] at hk; omega⟩, by rw [y0, mlow 32 (by decide), g32]⟩
  · unfold TOK; rw [l16]; decide
  · unfold B8; rw [l17]; exact hB
  · rw [n256 18 (by decide) (by decide), y18]; decide
  · rw [hh 274 (by decide)]; exact hM.2
  · rw [n256 18 (by decide) (by decide), y18, l16]
  · rw [l16] at hi; omega
  · rw [n256 19 (by decide) (by decide), yj 19 (by decide) (by decide) (by decide) (by decide), h19, ng 64 (by decide), b1 64 (by decide) (by decide), aC 64 (by decide) (by decide) (by decide), ed]; exact hf4.symm
  · rw [n256 16 (by decide) (by decide), yj 16 (by decide) (by decide) (by decide) (by decide), R256 16 (by decide), hl2 176 (by decide) (by decide) (by decide)]; exact H.2.2.2.2.2.2.2.1.1
  · rw [hl2 176 (by decide) (by decide) (by decide)]; exact H.2.2.2.2.2.2.2.1.2
  · rw [i312.1, m192]
  · exact POK_cg ⟨hl2 _ (by decide) (by decide) (by decide), hl2 _ (by decide) (by decide) (by decide), hl2 _ (by decide) (by decide) (by decide)⟩ i0.2.2.1
  · rw [i312.1] at q; exact absurd q (by decide)
  · rw [i312.2, m224]
  · exact POK_cg ⟨hl2 _ (by decide) (by decide) (by decide), hl2 _ (by decide) (by decide) (by decide), hl2 _ (by decide) (by decide) (by decide)⟩ i1.2.2.1
  · rw [i312.2] at q; exact absurd q (by decide)
  · rw [hh 311 (by decide)]; exact iB.1
  · rw [n312]; split
    · exact Or.inl rfl
    · split
      · exact Or.inl rfl
      · exact iB.2 j
  · refine LOK_cg (LOK_lA48 hT hB hL48) ?_ (fun k a b => ?_)
    · rw [ng 48 (by decide), b1 48 (by decide) (by decide)]
    · rw [ng (48 + k) (by omega), b1 (48 + k) (by omega) (by omega)]
theorem a_land {μ : Mem} (H : REL μ) : Agr mX11_land mX12_land [] μ := by
  obtain ⟨hT, hB, hM, hc, hq⟩ := H.2.2.2.2.2.1
  have hL48 := H.2.2.2.2.2.2.2.2.2.2.1
  have hMB := H.2.2.2.2.2.2.2.2.1
  have hL := H.1.1
  have l64 : lA μ 64 = ra2 μ 64 := by unfold lA; rw [mu_ne (by decide)]; exact rAll_64
  refine ⟨if ra2 μ 64 3 = 0 then lA μ 48 0 else -10 - ra2 μ 64 3, _, t_landC hT hB hL hL48, ?_⟩
  rintro w m ⟨q1, q2⟩
  rw [l64] at q1 q2
  by_cases c : ra2 μ 64 3 = 0
  · obtain ⟨g1, hLB, hLOK, hw, hm⟩ := q2 c
    rw [if_pos c]
    have mlow : ∀ k, (k ≠ 82 ∧ k ≠ 83 ∧ k ≠ 84 ∧ k ≠ 144 ∧ k ≠ 160 ∧ k ≠ 192 ∧ k ≠ 224) → m k = g1 k := fun k hk => by
      rw [hm]; unfold cl4; rw [mu_ne (by omega), mu_ne (by omega), mu_ne (by omega), mu_ne (by omega), sAll_c (by omega) (by omega) (by omega)]
    have mh : ∀ k, 256 ≤ k → m k = μ k := fun k hk => by rw [mlow k (by omega), hLB.1 k (by omega) (by omega), lA_c (by omega) (by omega) (by omega)]
    have e0 : m 32 0 = lA μ 48 0 := by rw [mlow 32 (by decide)]; exact hLB.2.1.1
    have hMm : MT m := by unfold MT; rw [mh 256 (by decide), mh 274 (by decide)]; exact hM
    have hBm : MB m := MB_cg (by rw [mh 256 (by decide)]) (by rw [mh 256 (by decide)]) (fun k a b => mh k (by omega)) hMB
    refine ⟨by rw [hw, ← hm, e0], _, r_land hMm hBm, ?_⟩
    rintro w2 m2 ⟨p1, p2⟩
    have tr := parse_rel hT hB hL48 hMm (by rw [mh 256 (by decide)]; exact hc) (fun i hi => by rw [mh 274 (by decide)]; exact hq i hi)
    obtain ⟨r1, r2, r3⟩ := mlR_r hMm
    rcases tr with ⟨t1, t2, t3, t4, t5⟩ | ⟨t1, t2, t3⟩
    · obtain ⟨x1, x2, x3, hx1, hx2, hV2, hx3, hMB3, hw2, hm2⟩ := p2 t1
      obtain ⟨a1, a2⟩ := land_ok H t2 t3 hLB hLOK hm r3 t4 t5 (r2 t1) hx1 hx2 hx3 hMB3 hm2
      exact ⟨by rw [hw2, a2, e0], a1⟩
    · exact absurd c (by rw [t2]; exact t1)
  · obtain ⟨hw, hm⟩ := q1 c
    rw [if_neg c]
    subst hm
    have mh : ∀ k, 256 ≤ k → lA μ k = μ k := fun k hk => lA_c (by omega) (by omega) (by omega)
    have hMm : MT (lA μ) := by unfold MT; rw [mh 256 (by decide), mh 274 (by decide)]; exact hM
    have hBm : MB (lA μ) := MB_cg (by rw [mh 256 (by decide)]) (by rw [mh 256 (by decide)]) (fun k a b => mh k (by omega)) hMB
    refine ⟨hw, _, r_land hMm hBm, ?_⟩
    rintro w2 m2 ⟨p1, p2⟩
    have tr := parse_rel hT hB hL48 hMm (by rw [mh 256 (by decide)]; exact hc) (fun i hi => by rw [mh 274 (by decide)]; exact hq i hi)
    obtain ⟨r1, r2, r3⟩ := mlR_r hMm
    rcases tr with ⟨t1, t2, _⟩ | ⟨t1, t2, t3⟩
    · exact absurd t2 c
    · obtain ⟨hw2, hm2⟩ := p1 t1
      exact ⟨by rw [hw2, t2], land_bad H r3 t3.symm hm2⟩

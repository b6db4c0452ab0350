def fillR : Nat → Int → Row → Row
  | 0, _, D => D
  | n + 1, k, D => fillR n (k + 1) (up D k.toNat (if k % 10 = 0 then 0 else 1000000))
theorem fillR_s {n : Nat} {k : Int} {D : Row} : fillR (n + 1) k D = fillR n (k + 1) (up D k.toNat (if k % 10 = 0 then 0 else 1000000)) := rfl
def edgR (μ : Mem) (o : Nat) : Nat → Int → Row → Row
  | 0, _, D => D
  | n + 1, r, D => edgR μ o n (r + 1) (if (0 ≤ gOne μ o r ∧ gOne μ o r < μ o 0) ∧ (0 ≤ gTwo μ o r ∧ gTwo μ o r < μ o 0) then up (up D (gOne μ o r * 9 + gTwo μ o r).toNat (gLn μ o r)) (gTwo μ o r * 9 + gOne μ o r).toNat (gLn μ o r) else D)
theorem edgR_s {μ : Mem} {o n : Nat} {r : Int} {D : Row} : edgR μ o (n + 1) r D = edgR μ o n (r + 1) (if (0 ≤ gOne μ o r ∧ gOne μ o r < μ o 0) ∧ (0 ≤ gTwo μ o r ∧ gTwo μ o r < μ o 0) then up (up D (gOne μ o r * 9 + gTwo μ o r).toNat (gLn μ o r)) (gTwo μ o r * 9 + gOne μ o r).toNat (gLn μ o r) else D) := rfl
theorem up_in {D : Row} {i : Nat} {v : Int} (h : ∀ x, inR (D x)) (hv : inR v) : ∀ x, inR (up D i v x) := fun x => by unfold up; split; exact hv; exact h x
theorem bi_gP {μ : Mem} {o k : Nat} {D : Row} {a : Int} (hk : 4 ≤ k) : bi (gP (mw μ (o + k) D) o a) = bi (gP μ o a) := bi_cg (by unfold gP; rw [mw_c (by omega)])
def stD (μ : Mem) (o : Nat) (D : Row) : Row := edgR μ o (μ o 1).toNat 0 (fillR 81 0 D)

set_option maxRecDepth 20000 in
theorem l_stEdge {μ : Mem} {o : Nat} (ho : LandAt o) (hL : LOK μ o) {R : Row} {X : ZX} (hX : isM X (fun w m => w = un ∧ m = mw μ (o + 12) R)) : ∀ (n : Nat) (r : Int) (y2 y3 : AV) (D : Row), (r + n = μ o 1) → (0 ≤ r) → (∀ x, inR (D x)) → (edgR μ o n r D = R) → V X mX4_startDistances 35 [vr o, vi r, y2, y3] [] (mw μ (o + 12) D) := by
  intro n
  induction n with
  | zero =>
    intro r y2 y3 D h1 h2 hD hR
    obtain ⟨hL0, hL1, hL2, hL3, hL4⟩ := id hL
    have hLm := LOK_mw (k := 12) hL (by decide) (by decide) (by decide) hD
    have e1 : mw μ (o + 12) D o 1 = μ o 1 := mw_c (by omega)
    have g1 := gOne_rg hL r
    have g2 := gTwo_rg hL r
    have g3 := gLn_rg hL r
    refine V_iloadn (pc := 35) dX4_startDistances_35 rfl ?_
    refine V_aloadn (pc := 36) dX4_startDistances_36 rfl ?_
    refine V_geti (r := 0) (pc := 37) dX4_startDistances_37 fX4_46 (LandAt_k ho) ?_
    rw [mw_c (by omega : (o : Nat) ≠ (o + 12))]
    refine V_icmp_ge (pc := 40) (tgt := 109) dX4_startDistances_40 (by decide) (by omega) (by omega) (fun h40 => ?_) (fun h40 => ?_)
    · refine V_vret (x := 0) hX dX4_startDistances_109 rfl ?_
      exact ⟨rfl, by rw [← hR]; rfl⟩
    · exfalso; omega
  | succ n ih =>
    intro r y2 y3 D h1 h2 hD hR
    obtain ⟨hL0, hL1, hL2, hL3, hL4⟩ := id hL
    have hLm := LOK_mw (k := 12) hL (by decide) (by decide) (by decide) hD
    have e1 : mw μ (o + 12) D o 1 = μ o 1 := mw_c (by omega)
    have g1 := gOne_rg hL r
    have g2 := gTwo_rg hL r
    have g3 := gLn_rg hL r
    refine V_iloadn (pc := 35) dX4_startDistances_35 rfl ?_
    refine V_aloadn (pc := 36) dX4_startDistances_36 rfl ?_
    refine V_geti (r := 0) (pc := 37) dX4_startDistances_37 fX4_46 (LandAt_k ho) ?_
    rw [mw_c (by omega : (o : Nat) ≠ (o + 12))]
    refine V_icmp_ge (pc := 40) (tgt := 109) dX4_startDistances_40 (by decide) (by omega) (by omega) (fun h40 => ?_) (fun h40 => ?_)
    · exfalso; omega
    · refine V_aloadn (pc := 43) dX4_startDistances_43 rfl ?_
      refine V_iloadn (pc := 44) dX4_startDistances_44 rfl ?_
      refine V_cv1 (pc := 45) dX4_startDistances_45 kX4_72 (LandAt_k ho) (by decide) (Nat.le_of_ble_eq_true rfl) (s_roadStart ho hLm (by omega)) rfl ?_
      rw [gOne_cg (mw_ne (by omega)) (mw_ne (by omega))]
      refine V_istore_2 (pc := 48) dX4_startDistances_48 (by decide) rfl ?_
      refine V_aloadn (pc := 49) dX4_startDistances_49 rfl ?_
      refine V_iloadn (pc := 50) dX4_startDistances_50 rfl ?_
      refine V_cv1 (pc := 51) dX4_startDistances_51 kX4_76 (LandAt_k ho) (by decide) (Nat.le_of_ble_eq_true rfl) (s_roadEnd ho hLm (by omega)) rfl ?_
      rw [gTwo_cg (mw_ne (by omega)) (mw_ne (by omega))]
      refine V_istore_3 (pc := 54) dX4_startDistances_54 (by decide) rfl ?_
      refine V_aloadn (pc := 55) dX4_startDistances_55 rfl ?_
      refine V_iloadn (pc := 56) dX4_startDistances_56 rfl ?_
      refine V_cv1 (pc := 57) dX4_startDistances_57 kX4_58 (LandAt_k ho) (by decide) (Nat.le_of_ble_eq_true rfl) (s_hasPlace ho hLm (by omega)) rfl ?_
      rw [bi_gP (by decide)]
      refine V_ifeq_b (pc := 60) (tgt := 103) dX4_startDistances_60 (by decide) (fun h60 => ?_) (fun h60 => ?_)
      · refine V_iinc_1 (pc := 103) dX4_startDistances_103 (by decide) rfl ?_
        refine V_goto (pc := 106) (tgt := 35) dX4_startDistances_106 (by decide) ?_
        first
          | exact ih _ _ _ _ (by omega) (by omega) hD (by rw [← hR, edgR_s, if_neg (by omega)])
          | exact ih _ _ _ _ (by omega) (by omega) (up_in (up_in hD g3) g3) (by rw [← hR, edgR_s, if_pos (by omega)])
      · refine V_aloadn (pc := 63) dX4_startDistances_63 rfl ?_
        refine V_iloadn (pc := 64) dX4_startDistances_64 rfl ?_
        refine V_cv1 (pc := 65) dX4_startDistances_65 kX4_58 (LandAt_k ho) (by decide) (Nat.le_of_ble_eq_true rfl) (s_hasPlace ho hLm (by omega)) rfl ?_
        rw [bi_gP (by decide)]
        refine V_ifeq_b (pc := 68) (tgt := 103) dX4_startDistances_68 (by decide) (fun h68 => ?_) (fun h68 => ?_)
        · refine V_iinc_1 (pc := 103) dX4_startDistances_103 (by decide) rfl ?_
          refine V_goto (pc := 106) (tgt := 35) dX4_startDistances_106 (by decide) ?_
          first
            | exact ih _ _ _ _ (by omega) (by omega) hD (by rw [← hR, edgR_s, if_neg (by omega)])
            | exact ih _ _ _ _ (by omega) (by omega) (up_in (up_in hD g3) g3) (by rw [← hR, edgR_s, if_pos (by omega)])
        · refine V_aloadn (pc := 71) dX4_startDistances_71 rfl ?_
          refine V_getr (pc := 72) dX4_startDistances_72 fX4_36 (LandAt_k ho) (LandAt_z11 ho) ?_
          refine V_iloadn (pc := 75) dX4_startDistances_75 rfl ?_
          refine V_bipush (pc := 76) dX4_startDistances_76 (by decide +kernel) ?_
          refine V_imul (pc := 78) dX4_startDistances_78 ?_
          refine V_iloadn (pc := 79) dX4_startDistances_79 rfl ?_
          refine V_iadd (pc := 80) dX4_startDistances_80 ?_
          refine V_aloadn (pc := 81) dX4_startDistances_81 rfl ?_
          refine V_iloadn (pc := 82) dX4_startDistances_82 rfl ?_
          refine V_cv1 (pc := 83) dX4_startDistances_83 kX4_110 (LandAt_k ho) (by decide) (Nat.le_of_ble_eq_true rfl) (s_roadMiles ho hLm (by omega)) rfl ?_
          rw [gLn_cg (mw_ne (by omega)) (mw_ne (by omega))]
          refine V_iast (pc := 86) dX4_startDistances_86 (LandAt_a11 ho) (by omega) (by omega) (by decide) ?_
          rw [mu_mw]
          have hLm2 := LOK_mw (k := 12) hL (by decide) (by decide) (by decide) (up_in (i := (gOne μ o r * 9 + gTwo μ o r).toNat) hD g3)
          refine V_aloadn (pc := 87) dX4_startDistances_87 rfl ?_
          refine V_getr (pc := 88) dX4_startDistances_88 fX4_36 (LandAt_k ho) (LandAt_z11 ho) ?_
          refine V_iloadn (pc := 91) dX4_startDistances_91 rfl ?_
          refine V_bipush (pc := 92) dX4_startDistances_92 (by decide +kernel) ?_
          refine V_imul (pc := 94) dX4_startDistances_94 ?_
          refine V_iloadn (pc := 95) dX4_startDistances_95 rfl ?_
          refine V_iadd (pc := 96) dX4_startDistances_96 ?_
          refine V_aloadn (pc := 97) dX4_startDistances_97 rfl ?_
          refine V_iloadn (pc := 98) dX4_startDistances_98 rfl ?_
          refine V_cv1 (pc := 99) dX4_startDistances_99 kX4_110 (LandAt_k ho) (by decide) (Nat.le_of_ble_eq_true rfl) (s_roadMiles ho hLm2 (by omega)) rfl ?_
          rw [gLn_cg (mw_ne (by omega)) (mw_ne (by omega))]
          refine V_iast (pc := 102) dX4_startDistances_102 (LandAt_a11 ho) (by omega) (by omega) (by decide) ?_
          rw [mu_mw]
          refine V_iinc_1 (pc := 103) dX4_startDistances_103 (by decide) rfl ?_
          refine V_goto (pc := 106) (tgt := 35) dX4_startDistances_106 (by decide) ?_
          first
            | exact ih _ _ _ _ (by omega) (by omega) hD (by rw [← hR, edgR_s, if_neg (by omega)])
            | exact ih _ _ _ _ (by omega) (by omega) (up_in (up_in hD g3) g3) (by rw [← hR, edgR_s, if_pos (by omega)])

set_option maxRecDepth 20000 in
theorem l_stFill {μ : Mem} {o : Nat} (ho : LandAt o) (hL : LOK μ o) {R : Row} {X : ZX} (hX : isM X (fun w m => w = un ∧ m = mw μ (o + 12) R)) : ∀ (n : Nat) (k : Int) (y2 y3 : AV) (D : Row), (k + n = 81) → (0 ≤ k) → (∀ x, inR (D x)) → (edgR μ o (μ o 1).toNat 0 (fillR n k D) = R) → V X mX4_startDistances 2 [vr o, vi k, y2, y3] [] (mw μ (o + 12) D) := by
  intro n
  induction n with
  | zero =>
    intro k y2 y3 D h1 h2 hD hR
    obtain ⟨hL0, hL1, hL2, hL3, hL4⟩ := id hL
    refine V_iloadn (pc := 2) dX4_startDistances_2 rfl ?_
    refine V_bipush (pc := 3) dX4_startDistances_3 (by decide +kernel) ?_
    refine V_icmp_ge (pc := 5) (tgt := 33) dX4_startDistances_5 (by decide) (by omega) (by decide) (fun h5 => ?_) (fun h5 => ?_)
    · refine V_iconst (pc := 33) dX4_startDistances_33 ?_
      refine V_istore_1 (pc := 34) dX4_startDistances_34 (by decide) rfl ?_
      exact l_stEdge ho hL hX (μ o 1).toNat 0 _ _ D (by omega) (by omega) hD hR
    · exfalso; omega
  | succ n ih =>
    intro k y2 y3 D h1 h2 hD hR
    have g0 := tdiv_rg (a := k) (b := 10) h2 (by decide)
    refine V_iloadn (pc := 2) dX4_startDistances_2 rfl ?_
    refine V_bipush (pc := 3) dX4_startDistances_3 (by decide +kernel) ?_
    refine V_icmp_ge (pc := 5) (tgt := 33) dX4_startDistances_5 (by decide) (by omega) (by decide) (fun h5 => ?_) (fun h5 => ?_)
    · exfalso; omega
    · refine V_aloadn (pc := 8) dX4_startDistances_8 rfl ?_
      refine V_getr (pc := 9) dX4_startDistances_9 fX4_36 (LandAt_k ho) (LandAt_z11 ho) ?_
      refine V_iloadn (pc := 12) dX4_startDistances_12 rfl ?_
      refine V_iloadn (pc := 13) dX4_startDistances_13 rfl ?_
      refine V_bipush (pc := 14) dX4_startDistances_14 (by decide +kernel) ?_
      refine V_irem (pc := 16) dX4_startDistances_16 (by omega) (by decide) (by decide) (by omega) ?_
      rw [Int.tmod_eq_emod_of_nonneg h2]
      refine V_if_ne (pc := 17) (tgt := 24) dX4_startDistances_17 (by decide) (by omega) (fun h17 => ?_) (fun h17 => ?_)
      · refine V_ldc (pc := 24) (n := 1000000) dX4_startDistances_24 nX4_109 (by decide) ?_
        refine V_iast (pc := 26) dX4_startDistances_26 (LandAt_a11 ho) (by omega) (by omega) (by decide) ?_
        rw [mu_mw]
        refine V_iinc_1 (pc := 27) dX4_startDistances_27 (by decide) rfl ?_
        refine V_goto (pc := 30) (tgt := 2) dX4_startDistances_30 (by decide) ?_
        exact ih _ _ _ _ (by omega) (by omega) (up_in hD (by omega)) (by rw [← hR, fillR_s]; first | rw [if_pos (by omega)] | rw [if_neg (by omega)])
      · refine V_iconst (pc := 20) dX4_startDistances_20 ?_
        refine V_goto (pc := 21) (tgt := 26) dX4_startDistances_21 (by decide) ?_
        refine V_iast (pc := 26) dX4_startDistances_26 (LandAt_a11 ho) (by omega) (by omega) (by decide) ?_
        rw [mu_mw]
        refine V_iinc_1 (pc := 27) dX4_startDistances_27 (by decide) rfl ?_
        refine V_goto (pc := 30) (tgt := 2) dX4_startDistances_30 (by decide) ?_
        exact ih _ _ _ _ (by omega) (by omega) (up_in hD (by omega)) (by rw [← hR, fillR_s]; first | rw [if_pos (by omega)] | rw [if_neg (by omega)])

set_option maxRecDepth 20000 in
theorem s_start {μ : Mem} {o : Nat} (ho : LandAt o) (hL : LOK μ o) {D : Row} (hD : ∀ x, inR (D x)) : SP mX4_startDistances [vr o] (mw μ (o + 12) D) (fun w m => w = un ∧ m = mw μ (o + 12) (stD μ o D)) := by
  refine SP_intro (ls := [vr o, un, un, un]) (by decide +kernel) rfl rfl (Nat.le_of_ble_eq_true rfl) rfl (fun X hX => ?_)
  refine V_iconst (pc := 0) dX4_startDistances_0 ?_
  refine V_istore_1 (pc := 1) dX4_startDistances_1 (by decide) rfl ?_
  exact l_stFill ho hL hX 81 0 _ _ D (by omega) (by omega) hD rfl

def shI (k a : Int) : Nat → Int → Row → Row
  | 0, _, D => D
  | n + 1, b, D => shI k a n (b + 1) (up D (a * 9 + b).toNat (min (D (a * 9 + b).toNat) (D (a * 9 + k).toNat + D (k * 9 + b).toNat)))
theorem shI_s {k a : Int} {n : Nat} {b : Int} {D : Row} : shI k a (n + 1) b D = shI k a n (b + 1) (up D (a * 9 + b).toNat (min (D (a * 9 + b).toNat) (D (a * 9 + k).toNat + D (k * 9 + b).toNat))) := rfl
def shO (k : Int) : Nat → Int → Row → Row
  | 0, _, D => D
  | n + 1, a, D => shO k n (a + 1) (shI k a 9 0 D)
theorem shO_s {k : Int} {n : Nat} {a : Int} {D : Row} : shO k (n + 1) a D = shO k n (a + 1) (shI k a 9 0 D) := rfl
/-- distances in their bounds -/
def DB (D : Row) : Prop := (∀ x, inR (D x)) ∧ ∀ x, x < 81 → 0 ≤ D x ∧ D x ≤ 1000000
theorem DB_up {D : Row} {i : Nat} {v : Int} (h : DB D) (hv : 0 ≤ v ∧ v ≤ 1000000) : DB (up D i v) := ⟨up_in h.1 (by omega), fun x hx => by unfold up; split; exact hv; exact h.2 x hx⟩
theorem shI_db {k a : Int} (hk : 0 ≤ k ∧ k < 9) (ha : 0 ≤ a ∧ a < 9) : ∀ (n : Nat) (b : Int) (D : Row), b + n = 9 → 0 ≤ b → DB D → DB (shI k a n b D) := by
  intro n
  induction n with
  | zero => intro b D _ _ h; exact h
  | succ n ih =>
    intro b D h1 h2 h
    rw [shI_s]
    have q1 := h.2 (a * 9 + b).toNat (by omega)
    have q2 := h.2 (a * 9 + k).toNat (by omega)
    have q3 := h.2 (k * 9 + b).toNat (by omega)
    exact ih _ _ (by omega) (by omega) (DB_up h (by omega))

set_option maxRecDepth 20000 in
theorem l_shI {μ : Mem} {o : Nat} (ho : LandAt o) {k a : Int} (hk : 0 ≤ k ∧ k < 9) (ha : 0 ≤ a ∧ a < 9) {R : Row} {X : ZX} (hex : ∀ b y4, V X mX4_shortenOver 85 [vr o, vi k, vi a, vi b, y4] [] (mw μ (o + 12) R)) : ∀ (n : Nat) (b : Int) (y4 : AV) (D : Row), (b + n = 9) → (0 ≤ b) → (DB D) → (shI k a n b D = R) → V X mX4_shortenOver 21 [vr o, vi k, vi a, vi b, y4] [] (mw μ (o + 12) D) := by
  intro n
  induction n with
  | zero =>
    intro b y4 D h1 h2 hD hR
    have q1 := hD.2 (a * 9 + b).toNat
    have q2 := hD.2 (a * 9 + k).toNat
    have q3 := hD.2 (k * 9 + b).toNat
    refine V_iloadn (pc := 21) dX4_shortenOver_21 rfl ?_
    refine V_bipush (pc := 22) dX4_shortenOver_22 (by decide +kernel) ?_
    refine V_icmp_ge (pc := 24) (tgt := 85) dX4_shortenOver_24 (by decide) (by omega) (by decide) (fun h24 => ?_) (fun h24 => ?_)
    · obtain rfl : D = R := hR
      exact hex _ _
    · exfalso; omega
  | succ n ih =>
    intro b y4 D h1 h2 hD hR
    have q1 := hD.2 (a * 9 + b).toNat (by omega)
    have q2 := hD.2 (a * 9 + k).toNat (by omega)
    have q3 := hD.2 (k * 9 + b).toNat (by omega)
    refine V_iloadn (pc := 21) dX4_shortenOver_21 rfl ?_
    refine V_bipush (pc := 22) dX4_shortenOver_22 (by decide +kernel) ?_
    refine V_icmp_ge (pc := 24) (tgt := 85) dX4_shortenOver_24 (by decide) (by omega) (by decide) (fun h24 => ?_) (fun h24 => ?_)
    · exfalso; omega
    · refine V_aloadn (pc := 27) dX4_shortenOver_27 rfl ?_
      refine V_getr (pc := 28) dX4_shortenOver_28 fX4_36 (LandAt_k ho) (LandAt_z11 ho) ?_
      refine V_iloadn (pc := 31) dX4_shortenOver_31 rfl ?_
      refine V_bipush (pc := 32) dX4_shortenOver_32 (by decide +kernel) ?_
      refine V_imul (pc := 34) dX4_shortenOver_34 ?_
      refine V_iloadn (pc := 35) dX4_shortenOver_35 rfl ?_
      refine V_iadd (pc := 36) dX4_shortenOver_36 ?_
      refine V_iald (pc := 37) dX4_shortenOver_37 (LandAt_a11 ho) (by omega) (by omega) (by decide) ?_
      rw [mw_s]
      refine V_aloadn (pc := 38) dX4_shortenOver_38 rfl ?_
      refine V_getr (pc := 39) dX4_shortenOver_39 fX4_36 (LandAt_k ho) (LandAt_z11 ho) ?_
      refine V_iloadn (pc := 42) dX4_shortenOver_42 rfl ?_
      refine V_bipush (pc := 43) dX4_shortenOver_43 (by decide +kernel) ?_
      refine V_imul (pc := 45) dX4_shortenOver_45 ?_
      refine V_iloadn (pc := 46) dX4_shortenOver_46 rfl ?_
      refine V_iadd (pc := 47) dX4_shortenOver_47 ?_
      refine V_iald (pc := 48) dX4_shortenOver_48 (LandAt_a11 ho) (by omega) (by omega) (by decide) ?_
      rw [mw_s]
      refine V_iadd (pc := 49) dX4_shortenOver_49 ?_
      refine V_istore_4 (pc := 50) dX4_shortenOver_50 (by decide) rfl ?_
      refine V_aloadn (pc := 52) dX4_shortenOver_52 rfl ?_
      refine V_getr (pc := 53) dX4_shortenOver_53 fX4_36 (LandAt_k ho) (LandAt_z11 ho) ?_
      refine V_iloadn (pc := 56) dX4_shortenOver_56 rfl ?_
      refine V_bipush (pc := 57) dX4_shortenOver_57 (by decide +kernel) ?_
      refine V_imul (pc := 59) dX4_shortenOver_59 ?_
      refine V_iloadn (pc := 60) dX4_shortenOver_60 rfl ?_
      refine V_iadd (pc := 61) dX4_shortenOver_61 ?_
      refine V_aloadn (pc := 62) dX4_shortenOver_62 rfl ?_
      refine V_getr (pc := 63) dX4_shortenOver_63 fX4_36 (LandAt_k ho) (LandAt_z11 ho) ?_
      refine V_iloadn (pc := 66) dX4_shortenOver_66 rfl ?_
      refine V_bipush (pc := 67) dX4_shortenOver_67 (by decide +kernel) ?_
      refine V_imul (pc := 69) dX4_shortenOver_69 ?_
      refine V_iloadn (pc := 70) dX4_shortenOver_70 rfl ?_
      refine V_iadd (pc := 71) dX4_shortenOver_71 ?_
      refine V_iald (pc := 72) dX4_shortenOver_72 (LandAt_a11 ho) (by omega) (by omega) (by decide) ?_
      rw [mw_s]
      refine V_iload (pc := 73) dX4_shortenOver_73 rfl ?_
      refine V_cs2 (pc := 75) dX4_shortenOver_75 kX4_113 (by decide) (Nat.le_of_ble_eq_true rfl) (s_min (by omega) (by omega)) rfl ?_
      refine V_iast (pc := 78) dX4_shortenOver_78 (LandAt_a11 ho) (by omega) (by omega) (by decide) ?_
      rw [mu_mw]
      refine V_iinc_3 (pc := 79) dX4_shortenOver_79 (by decide) rfl ?_
      refine V_goto (pc := 82) (tgt := 21) dX4_shortenOver_82 (by decide) ?_
      exact ih _ _ _ (by omega) (by omega) (DB_up hD (by omega)) (by rw [← hR, shI_s])

set_option maxRecDepth 20000 in
theorem l_shO {μ : Mem} {o : Nat} (ho : LandAt o) {k : Int} (hk : 0 ≤ k ∧ k < 9) {R : Row} {X : ZX} (hX : isM X (fun w m => w = un ∧ m = mw μ (o + 12) R)) : ∀ (n : Nat) (a : Int) (y3 y4 : AV) (D : Row), (a + n = 9) → (0 ≤ a) → (DB D) → (shO k n a D = R) → V X mX4_shortenOver 13 [vr o, vi k, vi a, y3, y4] [] (mw μ (o + 12) D) := by
  intro n
  induction n with
  | zero =>
    intro a y3 y4 D h1 h2 hD hR
    refine V_iloadn (pc := 13) dX4_shortenOver_13 rfl ?_
    refine V_bipush (pc := 14) dX4_shortenOver_14 (by decide +kernel) ?_
    refine V_icmp_ge (pc := 16) (tgt := 91) dX4_shortenOver_16 (by decide) (by omega) (by decide) (fun h16 => ?_) (fun h16 => ?_)
    · refine V_vret (x := 0) hX dX4_shortenOver_91 rfl ?_
      exact ⟨rfl, by rw [← hR]; rfl⟩
    · exfalso; omega
  | succ n ih =>
    intro a y3 y4 D h1 h2 hD hR
    refine V_iloadn (pc := 13) dX4_shortenOver_13 rfl ?_
    refine V_bipush (pc := 14) dX4_shortenOver_14 (by decide +kernel) ?_
    refine V_icmp_ge (pc := 16) (tgt := 91) dX4_shortenOver_16 (by decide) (by omega) (by decide) (fun h16 => ?_) (fun h16 => ?_)
    · exfalso; omega
    · refine V_iconst (pc := 19) dX4_shortenOver_19 ?_
      refine V_istore_3 (pc := 20) dX4_shortenOver_20 (by decide) rfl ?_
      refine l_shI ho hk (by omega) (fun b y4 => ?_) 9 0 _ D (by omega) (by omega) hD rfl
      refine V_iinc_2 (pc := 85) dX4_shortenOver_85 (by decide) rfl ?_
      refine V_goto (pc := 88) (tgt := 13) dX4_shortenOver_88 (by decide) ?_
      exact ih _ _ _ _ (by omega) (by omega) (shI_db hk (by omega) 9 0 D (by omega) (by omega) hD) (by rw [← hR, shO_s])

set_option maxRecDepth 20000 in
theorem s_shorten {μ : Mem} {o : Nat} (ho : LandAt o) {k : Int} (hk : 0 ≤ k ∧ k < 9) {D : Row} (hD : DB D) : SP mX4_shortenOver [vr o, vi k] (mw μ (o + 12) D) (fun w m => w = un ∧ m = mw μ (o + 12) (shO k 9 0 D)) := by
  refine SP_intro (ls := [vr o, vi k, un, un, un]) (by decide +kernel) rfl rfl (Nat.le_of_ble_eq_true rfl) rfl (fun X hX => ?_)
  refine V_iloadn (pc := 0) dX4_shortenOver_0 rfl ?_
  refine V_if_lt (pc := 1) (tgt := 10) dX4_shortenOver_1 (by decide) (by omega) (fun h1 => ?_) (fun h1 => ?_)
  · exfalso; omega
  · refine V_iloadn (pc := 4) dX4_shortenOver_4 rfl ?_
    refine V_bipush (pc := 5) dX4_shortenOver_5 (by decide +kernel) ?_
    refine V_icmp_lt (pc := 7) (tgt := 11) dX4_shortenOver_7 (by decide) (by omega) (by decide) (fun h7 => ?_) (fun h7 => ?_)
    · refine V_iconst (pc := 11) dX4_shortenOver_11 ?_
      refine V_istore_2 (pc := 12) dX4_shortenOver_12 (by decide) rfl ?_
      exact l_shO ho hk hX 9 0 _ _ D (by omega) (by omega) hD rfl
    · exfalso; omega

def ltL (μ : Mem) (o : Nat) (p t : Int) : Nat → Int → Int
  | 0, _ => -1
  | n + 1, s => if gLn μ o (gRd μ o p s) + gFar μ o (gBy μ o p (gRd μ o p s)) t = gFar μ o p t then s else ltL μ o p t n (s + 1)
theorem ltL_s {μ : Mem} {o : Nat} {p t : Int} {n : Nat} {s : Int} : ltL μ o p t (n + 1) s = if gLn μ o (gRd μ o p s) + gFar μ o (gBy μ o p (gRd μ o p s)) t = gFar μ o p t then s else ltL μ o p t n (s + 1) := rfl
def lta (μ : Mem) (o : Nat) (p t : Int) : Int := if p = t ∨ ¬ (0 ≤ p ∧ p < μ o 0) ∨ ¬ (0 ≤ t ∧ t < μ o 0) ∨ 1000000 ≤ gFar μ o p t then -1 else ltL μ o p t (gSd μ o p).toNat 0
theorem ltL_cg {μ ν : Mem} {o : Nat} (h : ∀ k, k ≤ 12 → ν (o + k) = μ (o + k)) {p t : Int} : ∀ (n : Nat) (s : Int), ltL ν o p t n s = ltL μ o p t n s := by
  have h0 : ν o = μ o := h 0 (by decide)
  intro n
  induction n with
  | zero => intros; rfl
  | succ n ih => intro s; simp only [ltL_s, gLn_cg h0 (h 6 (by decide)), gRd_cg h0 (h 10 (by decide)) (h 11 (by decide)), gFar_cg h0 (h 12 (by decide)), gBy_cg h0 (h 4 (by decide)) (h 5 (by decide)), ih]
theorem lta_cg {μ ν : Mem} {o : Nat} (h : ∀ k, k ≤ 12 → ν (o + k) = μ (o + k)) (p t : Int) : lta ν o p t = lta μ o p t := by
  have h0 : ν o = μ o := h 0 (by decide)
  unfold lta
  rw [ltL_cg h, h0, gFar_cg h0 (h 12 (by decide)), gSd_cg h0 (h 10 (by decide))]
theorem ltL_rg {μ : Mem} {o : Nat} {p t : Int} : ∀ (n : Nat) (s : Int), 0 ≤ s → -1 ≤ ltL μ o p t n s ∧ ltL μ o p t n s < s + n := by
  intro n
  induction n with
  | zero => intro s hs; simp [ltL]; omega
  | succ n ih =>
    intro s hs
    have := ih (s + 1) (by omega)
    rw [ltL_s]; split <;> omega
theorem lta_rg {μ : Mem} {o : Nat} (hL : LOK μ o) (p t : Int) : -1 ≤ lta μ o p t ∧ lta μ o p t ≤ 4 := by
  unfold lta
  have g := gSd_rg hL p
  split
  · decide
  · have := ltL_rg (μ := μ) (o := o) (p := p) (t := t) (gSd μ o p).toNat 0 (by omega)
    omega

set_option maxRecDepth 20000 in
theorem l_least {μ : Mem} {o : Nat} (ho : LandAt o) (hL : LOK μ o) (hln : ∀ r, 0 ≤ gLn μ o r ∧ gLn μ o r ≤ 99) (hF : ∀ a b, -1 ≤ gFar μ o a b ∧ gFar μ o a b ≤ 1000000) {p t : Int} (hp : inR p) (ht : inR t) {R : Int} {X : ZX} (hX : isM X (fun w m => w = vi R ∧ m = μ)) : ∀ (n : Nat) (s : Int) (y4 : AV), (s + n = gSd μ o p) → (0 ≤ s) → (ltL μ o p t n s = R) → V X mX4_leastTrueArm 36 [vr o, vi p, vi t, vi s, y4] [] μ := by
  intro n
  induction n with
  | zero =>
    intro s y4 h1 h2 hR
    have g1 := gSd_rg hL p
    have g2 := gRd_rg hL p s
    have g3 := gBy_rg hL p (gRd μ o p s)
    have g4 := hln (gRd μ o p s)
    have g5 := hF (gBy μ o p (gRd μ o p s)) t
    have g6 := hF p t
    refine V_iloadn (pc := 36) dX4_leastTrueArm_36 rfl ?_
    refine V_aloadn (pc := 37) dX4_leastTrueArm_37 rfl ?_
    refine V_iloadn (pc := 38) dX4_leastTrueArm_38 rfl ?_
    refine V_cv1 (pc := 39) dX4_leastTrueArm_39 kX4_79 (LandAt_k ho) (by decide) (Nat.le_of_ble_eq_true rfl) (s_sidesOf ho hL hp) rfl ?_
    refine V_icmp_ge (pc := 42) (tgt := 89) dX4_leastTrueArm_42 (by decide) (by omega) (by omega) (fun h42 => ?_) (fun h42 => ?_)
    · refine V_iconst (pc := 89) dX4_leastTrueArm_89 ?_
      refine V_iret hX dX4_leastTrueArm_90 rfl ?_
      exact ⟨congrArg vi hR, rfl⟩
    · exfalso; omega
  | succ n ih =>
    intro s y4 h1 h2 hR
    have g1 := gSd_rg hL p
    have g2 := gRd_rg hL p s
    have g3 := gBy_rg hL p (gRd μ o p s)
    have g4 := hln (gRd μ o p s)
    have g5 := hF (gBy μ o p (gRd μ o p s)) t
    have g6 := hF p t
    refine V_iloadn (pc := 36) dX4_leastTrueArm_36 rfl ?_
    refine V_aloadn (pc := 37) dX4_leastTrueArm_37 rfl ?_
    refine V_iloadn (pc := 38) dX4_leastTrueArm_38 rfl ?_
    refine V_cv1 (pc := 39) dX4_leastTrueArm_39 kX4_79 (LandAt_k ho) (by decide) (Nat.le_of_ble_eq_true rfl) (s_sidesOf ho hL hp) rfl ?_
    refine V_icmp_ge (pc := 42) (tgt := 89) dX4_leastTrueArm_42 (by decide) (by omega) (by omega) (fun h42 => ?_) (fun h42 => ?_)
    · exfalso; omega
    · refine V_aloadn (pc := 45) dX4_leastTrueArm_45 rfl ?_
      refine V_iloadn (pc := 46) dX4_leastTrueArm_46 rfl ?_
      refine V_iloadn (pc := 47) dX4_leastTrueArm_47 rfl ?_
      refine V_cv2 (pc := 48) dX4_leastTrueArm_48 kX4_82 (LandAt_k ho) (by decide) (Nat.le_of_ble_eq_true rfl) (s_roadAtSide ho hL hp (by omega)) rfl ?_
      refine V_istore_4 (pc := 51) dX4_leastTrueArm_51 (by decide) rfl ?_
      refine V_aloadn (pc := 53) dX4_leastTrueArm_53 rfl ?_
      refine V_iload (pc := 54) dX4_leastTrueArm_54 rfl ?_
      refine V_cv1 (pc := 56) dX4_leastTrueArm_56 kX4_110 (LandAt_k ho) (by decide) (Nat.le_of_ble_eq_true rfl) (s_roadMiles ho hL (by omega)) rfl ?_
      refine V_aloadn (pc := 59) dX4_leastTrueArm_59 rfl ?_
      refine V_aloadn (pc := 60) dX4_leastTrueArm_60 rfl ?_
      refine V_iloadn (pc := 61) dX4_leastTrueArm_61 rfl ?_
      refine V_iload (pc := 62) dX4_leastTrueArm_62 rfl ?_
      refine V_cv2 (pc := 64) dX4_leastTrueArm_64 kX4_86 (LandAt_k ho) (by decide) (Nat.le_of_ble_eq_true rfl) (s_beyondRoad ho hL hp (by omega)) rfl ?_
      refine V_iloadn (pc := 67) dX4_leastTrueArm_67 rfl ?_
      refine V_cv2 (pc := 68) dX4_leastTrueArm_68 kX4_118 (LandAt_k ho) (by decide) (Nat.le_of_ble_eq_true rfl) (s_fewestMiles ho hL (by omega) (by omega)) rfl ?_
      refine V_iadd (pc := 71) dX4_leastTrueArm_71 ?_
      refine V_aloadn (pc := 72) dX4_leastTrueArm_72 rfl ?_
      refine V_iloadn (pc := 73) dX4_leastTrueArm_73 rfl ?_
      refine V_iloadn (pc := 74) dX4_leastTrueArm_74 rfl ?_
      refine V_cv2 (pc := 75) dX4_leastTrueArm_75 kX4_118 (LandAt_k ho) (by decide) (Nat.le_of_ble_eq_true rfl) (s_fewestMiles ho hL (by omega) (by omega)) rfl ?_
      refine V_icmp_ne (pc := 78) (tgt := 83) dX4_leastTrueArm_78 (by decide) (by omega) (by omega) (fun h78 => ?_) (fun h78 => ?_)
      · refine V_iinc_3 (pc := 83) dX4_leastTrueArm_83 (by decide) rfl ?_
        refine V_goto (pc := 86) (tgt := 36) dX4_leastTrueArm_86 (by decide) ?_
        exact ih _ _ (by omega) (by omega) (by rw [← hR, ltL_s, if_neg (by omega)])
      · refine V_iloadn (pc := 81) dX4_leastTrueArm_81 rfl ?_
        refine V_iret hX dX4_leastTrueArm_82 rfl ?_
        exact ⟨congrArg vi (by rw [← hR, ltL_s, if_pos (by omega)]), rfl⟩

set_option maxRecDepth 20000 in
theorem s_least {μ : Mem} {o : Nat} (ho : LandAt o) (hL : LOK μ o) (hln : ∀ r, 0 ≤ gLn μ o r ∧ gLn μ o r ≤ 99) (hF : ∀ a b, -1 ≤ gFar μ o a b ∧ gFar μ o a b ≤ 1000000) {p t : Int} (hp : inR p) (ht : inR t) : SP mX4_leastTrueArm [vr o, vi p, vi t] μ (fun w m => w = vi (lta μ o p t) ∧ m = μ) := by
  refine SP_intro (ls := [vr o, vi p, vi t, un, un]) (by decide +kernel) rfl rfl (Nat.le_of_ble_eq_true rfl) rfl (fun X hX => ?_)
  have g1 := gSd_rg hL p
  have g6 := hF p t
  obtain ⟨hL0, -⟩ := id hL
  refine V_iloadn (pc := 0) dX4_leastTrueArm_0 rfl ?_
  refine V_iloadn (pc := 1) dX4_leastTrueArm_1 rfl ?_
  refine V_icmp_eq (pc := 2) (tgt := 32) dX4_leastTrueArm_2 (by decide) (by omega) (by omega) (fun h2 => ?_) (fun h2 => ?_)
  · refine V_iconst (pc := 32) dX4_leastTrueArm_32 ?_
    refine V_iret hX dX4_leastTrueArm_33 rfl ?_
    exact ⟨congrArg vi (by unfold lta; rw [if_pos (by omega)]), rfl⟩
  · refine V_aloadn (pc := 5) dX4_leastTrueArm_5 rfl ?_
    refine V_iloadn (pc := 6) dX4_leastTrueArm_6 rfl ?_
    refine V_cv1 (pc := 7) dX4_leastTrueArm_7 kX4_58 (LandAt_k ho) (by decide) (Nat.le_of_ble_eq_true rfl) (s_hasPlace ho hL (by omega)) rfl ?_
    refine V_ifeq_b (pc := 10) (tgt := 32) dX4_leastTrueArm_10 (by decide) (fun h10 => ?_) (fun h10 => ?_)
    · refine V_iconst (pc := 32) dX4_leastTrueArm_32 ?_
      refine V_iret hX dX4_leastTrueArm_33 rfl ?_
      exact ⟨congrArg vi (by unfold lta; rw [if_pos (by omega)]), rfl⟩
    · refine V_aloadn (pc := 13) dX4_leastTrueArm_13 rfl ?_
      refine V_iloadn (pc := 14) dX4_leastTrueArm_14 rfl ?_
      refine V_cv1 (pc := 15) dX4_leastTrueArm_15 kX4_58 (LandAt_k ho) (by decide) (Nat.le_of_ble_eq_true rfl) (s_hasPlace ho hL (by omega)) rfl ?_
      refine V_ifeq_b (pc := 18) (tgt := 32) dX4_leastTrueArm_18 (by decide) (fun h18 => ?_) (fun h18 => ?_)
      · refine V_iconst (pc := 32) dX4_leastTrueArm_32 ?_
        refine V_iret hX dX4_leastTrueArm_33 rfl ?_
        exact ⟨congrArg vi (by unfold lta; rw [if_pos (by omega)]), rfl⟩
      · refine V_aloadn (pc := 21) dX4_leastTrueArm_21 rfl ?_
        refine V_iloadn (pc := 22) dX4_leastTrueArm_22 rfl ?_
        refine V_iloadn (pc := 23) dX4_leastTrueArm_23 rfl ?_
        refine V_cv2 (pc := 24) dX4_leastTrueArm_24 kX4_118 (LandAt_k ho) (by decide) (Nat.le_of_ble_eq_true rfl) (s_fewestMiles ho hL (by omega) (by omega)) rfl ?_
        refine V_ldc (pc := 27) (n := 1000000) dX4_leastTrueArm_27 nX4_109 (by decide) ?_
        refine V_icmp_lt (pc := 29) (tgt := 34) dX4_leastTrueArm_29 (by decide) (by omega) (by decide) (fun h29 => ?_) (fun h29 => ?_)
        · refine V_iconst (pc := 34) dX4_leastTrueArm_34 ?_
          refine V_istore_3 (pc := 35) dX4_leastTrueArm_35 (by decide) rfl ?_
          exact l_least ho hL hln hF hp ht hX (gSd μ o p).toNat 0 _ (by omega) (by omega) (by unfold lta; rw [if_neg (by omega)])
        · refine V_iconst (pc := 32) dX4_leastTrueArm_32 ?_
          refine V_iret hX dX4_leastTrueArm_33 rfl ?_
          exact ⟨congrArg vi (by unfold lta; rw [if_pos (by omega)]), rfl⟩


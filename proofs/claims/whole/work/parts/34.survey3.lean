theorem fillR_get : ∀ (n : Nat) (k : Int) (D : Row) (x : Nat), 0 ≤ k → fillR n k D x = if k ≤ x ∧ (x : Int) < k + n then (if x % 10 = 0 then 0 else 1000000) else D x := by
  intro n
  induction n with
  | zero => intro k D x _; rw [if_neg (by omega)]; rfl
  | succ n ih =>
    intro k D x hk
    rw [fillR_s, ih (k + 1) _ x (by omega)]
    by_cases h : k + 1 ≤ x ∧ (x : Int) < k + 1 + n
    · rw [if_pos h, if_pos (show k ≤ x ∧ (x : Int) < k + ((n + 1 : Nat) : Int) by omega)]
    · rw [if_neg h]
      unfold up
      by_cases h2 : x = k.toNat
      · rw [if_pos h2, if_pos (show k ≤ x ∧ (x : Int) < k + ((n + 1 : Nat) : Int) by omega)]
        by_cases h3 : k % 10 = 0
        · rw [if_pos h3, if_pos (by omega)]
        · rw [if_neg h3, if_neg (by omega)]
      · rw [if_neg h2, if_neg (show ¬ (k ≤ x ∧ (x : Int) < k + ((n + 1 : Nat) : Int)) by omega)]
theorem edgR_db {μ : Mem} {o : Nat} (hln : ∀ r, 0 ≤ gLn μ o r ∧ gLn μ o r ≤ 99) : ∀ (n : Nat) (r : Int) (D : Row), DB D → DB (edgR μ o n r D) := by
  intro n
  induction n with
  | zero => intro r D h; exact h
  | succ n ih =>
    intro r D h
    rw [edgR_s]
    have := hln r
    apply ih
    split
    · exact DB_up (DB_up h (by omega)) (by omega)
    · exact h
theorem stD_db {μ : Mem} {o : Nat} (hln : ∀ r, 0 ≤ gLn μ o r ∧ gLn μ o r ≤ 99) {D : Row} (hD : ∀ x, inR (D x)) : DB (stD μ o D) := by
  refine edgR_db hln _ _ _ ⟨fun x => ?_, fun x hx => ?_⟩
  · rw [fillR_get 81 0 D x (by decide)]; split
    · split <;> decide
    · exact hD x
  · rw [fillR_get 81 0 D x (by decide), if_pos (by omega)]; split <;> decide
def fwN : Nat → Int → Row → Row
  | 0, _, D => D
  | n + 1, k, D => fwN n (k + 1) (shO k 9 0 D)
theorem fwN_s {n : Nat} {k : Int} {D : Row} : fwN (n + 1) k D = fwN n (k + 1) (shO k 9 0 D) := rfl
theorem shO_db {k : Int} (hk : 0 ≤ k ∧ k < 9) : ∀ (n : Nat) (a : Int) (D : Row), a + n = 9 → 0 ≤ a → DB D → DB (shO k n a D) := by
  intro n
  induction n with
  | zero => intro a D _ _ h; exact h
  | succ n ih => intro a D h1 h2 h; rw [shO_s]; exact ih _ _ (by omega) (by omega) (shI_db hk (by omega) 9 0 D (by omega) (by omega) h)
theorem fwN_db : ∀ (n : Nat) (k : Int) (D : Row), k + n ≤ 9 → 0 ≤ k → DB D → DB (fwN n k D) := by
  intro n
  induction n with
  | zero => intro k D _ _ h; exact h
  | succ n ih => intro k D h1 h2 h; rw [fwN_s]; exact ih _ _ (by omega) (by omega) (shO_db (by omega) 9 0 D (by omega) (by omega) h)
def fAi (L : Int → Int → Int) (p : Int) : Nat → Int → Row → Row
  | 0, _, T => T
  | n + 1, t, T => fAi L p n (t + 1) (up T (p * 9 + t).toNat (L p t))
theorem fAi_s {L : Int → Int → Int} {p : Int} {n : Nat} {t : Int} {T : Row} : fAi L p (n + 1) t T = fAi L p n (t + 1) (up T (p * 9 + t).toNat (L p t)) := rfl
def fAo (L : Int → Int → Int) : Nat → Int → Row → Row
  | 0, _, T => T
  | n + 1, p, T => fAo L n (p + 1) (fAi L p 9 0 T)
theorem fAo_s {L : Int → Int → Int} {n : Nat} {p : Int} {T : Row} : fAo L (n + 1) p T = fAo L n (p + 1) (fAi L p 9 0 T) := rfl
def ngR : Nat → Int → Row → Row
  | 0, _, D => D
  | n + 1, k, D => ngR n (k + 1) (up D k.toNat (if 1000000 ≤ D k.toNat then -1 else D k.toNat))
theorem ngR_s {n : Nat} {k : Int} {D : Row} : ngR (n + 1) k D = ngR n (k + 1) (up D k.toNat (if 1000000 ≤ D k.toNat then -1 else D k.toNat)) := rfl
theorem mw_comm {μ : Mem} {a b : Nat} {r s : Row} (h : a ≠ b) : mw (mw μ a r) b s = mw (mw μ b s) a r := by
  funext k x
  by_cases h1 : k = a
  · subst h1; simp [mw, h]
  · by_cases h2 : k = b
    · subst h2; simp [mw, h1]
    · simp [mw, h1, h2]
def svD (μ : Mem) (o : Nat) : Row := fwN 9 0 (stD μ o (μ (o + 12)))
def svy (μ : Mem) (o : Nat) : Mem := mw (mw μ (o + 13) (fAo (lta (mw μ (o + 12) (svD μ o)) o) 9 0 (μ (o + 13)))) (o + 12) (ngR 81 0 (svD μ o))
theorem gFar_db {μ : Mem} {o : Nat} (hL : LOK μ o) {D : Row} (hD : DB D) (a b : Int) : -1 ≤ gFar (mw μ (o + 12) D) o a b ∧ gFar (mw μ (o + 12) D) o a b ≤ 1000000 := by
  have h0 := hL.1
  unfold gFar
  rw [mw_c (show o ≠ o + 12 by omega), mw_s]
  split
  · have := hD.2 (a * 9 + b).toNat (by omega)
    omega
  · decide

set_option maxRecDepth 20000 in
theorem l_svNeg {ν : Mem} {o : Nat} (ho : LandAt o) {R : Row} {X : ZX} (hX : isM X (fun w m => w = un ∧ m = mw ν (o + 12) R)) : ∀ (n : Nat) (k : Int) (y2 : AV) (D : Row), (k + n = 81) → (0 ≤ k) → (∀ x, inR (D x)) → (ngR n k D = R) → V X mX4_survey 70 [vr o, vi k, y2] [] (mw ν (o + 12) D) := by
  intro n
  induction n with
  | zero =>
    intro k y2 D h1 h2 hD hR
    have q := hD k.toNat
    refine V_iloadn (pc := 70) dX4_survey_70 rfl ?_
    refine V_bipush (pc := 71) dX4_survey_71 (by decide +kernel) ?_
    refine V_icmp_ge (pc := 73) (tgt := 109) dX4_survey_73 (by decide) (by omega) (by decide) (fun h73 => ?_) (fun h73 => ?_)
    · refine V_vret (x := 0) hX dX4_survey_109 rfl ?_
      exact ⟨rfl, by rw [← hR]; rfl⟩
    · exfalso; omega
  | succ n ih =>
    intro k y2 D h1 h2 hD hR
    have q := hD k.toNat
    refine V_iloadn (pc := 70) dX4_survey_70 rfl ?_
    refine V_bipush (pc := 71) dX4_survey_71 (by decide +kernel) ?_
    refine V_icmp_ge (pc := 73) (tgt := 109) dX4_survey_73 (by decide) (by omega) (by decide) (fun h73 => ?_) (fun h73 => ?_)
    · exfalso; omega
    · refine V_aloadn (pc := 76) dX4_survey_76 rfl ?_
      refine V_getr (pc := 77) dX4_survey_77 fX4_36 (LandAt_k ho) (LandAt_z11 ho) ?_
      refine V_iloadn (pc := 80) dX4_survey_80 rfl ?_
      refine V_aloadn (pc := 81) dX4_survey_81 rfl ?_
      refine V_getr (pc := 82) dX4_survey_82 fX4_36 (LandAt_k ho) (LandAt_z11 ho) ?_
      refine V_iloadn (pc := 85) dX4_survey_85 rfl ?_
      refine V_iald (pc := 86) dX4_survey_86 (LandAt_a11 ho) (by omega) (by omega) (by decide) ?_
      rw [mw_s]
      refine V_ldc (pc := 87) (n := 1000000) dX4_survey_87 nX4_109 (by decide) ?_
      refine V_icmp_lt (pc := 89) (tgt := 96) dX4_survey_89 (by decide) (by omega) (by decide) (fun h89 => ?_) (fun h89 => ?_)
      · refine V_aloadn (pc := 96) dX4_survey_96 rfl ?_
        refine V_getr (pc := 97) dX4_survey_97 fX4_36 (LandAt_k ho) (LandAt_z11 ho) ?_
        refine V_iloadn (pc := 100) dX4_survey_100 rfl ?_
        refine V_iald (pc := 101) dX4_survey_101 (LandAt_a11 ho) (by omega) (by omega) (by decide) ?_
        rw [mw_s]
        refine V_iast (pc := 102) dX4_survey_102 (LandAt_a11 ho) (by omega) (by omega) (by decide) ?_
        rw [mu_mw]
        refine V_iinc_1 (pc := 103) dX4_survey_103 (by decide) rfl ?_
        refine V_goto (pc := 106) (tgt := 70) dX4_survey_106 (by decide) ?_
        exact ih _ _ _ (by omega) (by omega) (up_in hD (by omega)) (by rw [← hR, ngR_s]; first | rw [if_pos (by omega)] | rw [if_neg (by omega)])
      · refine V_iconst (pc := 92) dX4_survey_92 ?_
        refine V_goto (pc := 93) (tgt := 102) dX4_survey_93 (by decide) ?_
        refine V_iast (pc := 102) dX4_survey_102 (LandAt_a11 ho) (by omega) (by omega) (by decide) ?_
        rw [mu_mw]
        refine V_iinc_1 (pc := 103) dX4_survey_103 (by decide) rfl ?_
        refine V_goto (pc := 106) (tgt := 70) dX4_survey_106 (by decide) ?_
        exact ih _ _ _ (by omega) (by omega) (up_in hD (by omega)) (by rw [← hR, ngR_s]; first | rw [if_pos (by omega)] | rw [if_neg (by omega)])

set_option maxRecDepth 20000 in
theorem l_svArmT {μ : Mem} {o : Nat} (ho : LandAt o) (hL : LOK μ o) (hln : ∀ r, 0 ≤ gLn μ o r ∧ gLn μ o r ≤ 99) {D : Row} (hD : DB D) {p : Int} (hp : 0 ≤ p ∧ p < 9) {R : Row} {X : ZX} (hex : (∀ x, inR (R x)) → ∀ t, V X mX4_survey 62 [vr o, vi p, vi t] [] (mw (mw μ (o + 12) D) (o + 13) R)) : ∀ (n : Nat) (t : Int) (Z : Row), (t + n = 9) → (0 ≤ t) → (∀ x, inR (Z x)) → (fAi (lta (mw μ (o + 12) D) o) p n t Z = R) → V X mX4_survey 33 [vr o, vi p, vi t] [] (mw (mw μ (o + 12) D) (o + 13) Z) := by
  intro n
  induction n with
  | zero =>
    intro t Z h1 h2 hZ hR
    refine V_iloadn (pc := 33) dX4_survey_33 rfl ?_
    refine V_bipush (pc := 34) dX4_survey_34 (by decide +kernel) ?_
    refine V_icmp_ge (pc := 36) (tgt := 62) dX4_survey_36 (by decide) (by omega) (by decide) (fun h36 => ?_) (fun h36 => ?_)
    · obtain rfl : Z = R := hR
      exact hex hZ _
    · exfalso; omega
  | succ n ih =>
    intro t Z h1 h2 hZ hR
    have hM : LOK (mw μ (o + 12) D) o := LOK_mw hL (by decide) (by decide) (by decide) hD.1
    have hM2 : LOK (mw (mw μ (o + 12) D) (o + 13) Z) o := LOK_mw hM (by decide) (by decide) (by decide) hZ
    have cg : ∀ k, k ≤ 12 → mw (mw μ (o + 12) D) (o + 13) Z (o + k) = mw μ (o + 12) D (o + k) := fun k hk => mw_ne (by omega)
    have hln2 : ∀ r, 0 ≤ gLn (mw (mw μ (o + 12) D) (o + 13) Z) o r ∧ gLn (mw (mw μ (o + 12) D) (o + 13) Z) o r ≤ 99 := fun r => by rw [gLn_cg (μ := mw μ (o + 12) D) (mw_ne (by omega)) (cg 6 (by decide)), gLn_cg (mw_ne (by omega)) (mw_ne (by omega))]; exact hln r
    have hF2 : ∀ a b, -1 ≤ gFar (mw (mw μ (o + 12) D) (o + 13) Z) o a b ∧ gFar (mw (mw μ (o + 12) D) (o + 13) Z) o a b ≤ 1000000 := fun a b => by rw [gFar_cg (μ := mw μ (o + 12) D) (mw_ne (by omega)) (cg 12 (by decide))]; exact gFar_db hL hD a b
    have gl := lta_rg hM p t
    refine V_iloadn (pc := 33) dX4_survey_33 rfl ?_
    refine V_bipush (pc := 34) dX4_survey_34 (by decide +kernel) ?_
    refine V_icmp_ge (pc := 36) (tgt := 62) dX4_survey_36 (by decide) (by omega) (by decide) (fun h36 => ?_) (fun h36 => ?_)
    · exfalso; omega
    · refine V_aloadn (pc := 39) dX4_survey_39 rfl ?_
      refine V_getr (pc := 40) dX4_survey_40 fX4_39 (LandAt_k ho) (LandAt_z12 ho) ?_
      refine V_iloadn (pc := 43) dX4_survey_43 rfl ?_
      refine V_bipush (pc := 44) dX4_survey_44 (by decide +kernel) ?_
      refine V_imul (pc := 46) dX4_survey_46 ?_
      refine V_iloadn (pc := 47) dX4_survey_47 rfl ?_
      refine V_iadd (pc := 48) dX4_survey_48 ?_
      refine V_aloadn (pc := 49) dX4_survey_49 rfl ?_
      refine V_iloadn (pc := 50) dX4_survey_50 rfl ?_
      refine V_iloadn (pc := 51) dX4_survey_51 rfl ?_
      refine V_cv2 (pc := 52) dX4_survey_52 kX4_106 (LandAt_k ho) (by decide) (Nat.le_of_ble_eq_true rfl) (s_least ho hM2 hln2 hF2 (by omega) (by omega)) rfl ?_
      rw [lta_cg cg]
      refine V_iast (pc := 55) dX4_survey_55 (LandAt_a12 ho) (by omega) (by omega) (by decide) ?_
      rw [mu_mw]
      refine V_iinc_2 (pc := 56) dX4_survey_56 (by decide) rfl ?_
      refine V_goto (pc := 59) (tgt := 33) dX4_survey_59 (by decide) ?_
      exact ih _ _ (by omega) (by omega) (up_in hZ (by omega)) (by rw [← hR, fAi_s])

set_option maxRecDepth 20000 in
theorem l_svArm {μ : Mem} {o : Nat} (ho : LandAt o) (hL : LOK μ o) (hln : ∀ r, 0 ≤ gLn μ o r ∧ gLn μ o r ≤ 99) {D : Row} (hD : DB D) {R : Row} {X : ZX} (hex : ∀ p y2, V X mX4_survey 68 [vr o, vi p, y2] [] (mw (mw μ (o + 12) D) (o + 13) R)) : ∀ (n : Nat) (p : Int) (y2 : AV) (Z : Row), (p + n = 9) → (0 ≤ p) → (∀ x, inR (Z x)) → (fAo (lta (mw μ (o + 12) D) o) n p Z = R) → V X mX4_survey 25 [vr o, vi p, y2] [] (mw (mw μ (o + 12) D) (o + 13) Z) := by
  intro n
  induction n with
  | zero =>
    intro p y2 Z h1 h2 hZ hR
    refine V_iloadn (pc := 25) dX4_survey_25 rfl ?_
    refine V_bipush (pc := 26) dX4_survey_26 (by decide +kernel) ?_
    refine V_icmp_ge (pc := 28) (tgt := 68) dX4_survey_28 (by decide) (by omega) (by decide) (fun h28 => ?_) (fun h28 => ?_)
    · obtain rfl : Z = R := hR
      exact hex _ _
    · exfalso; omega
  | succ n ih =>
    intro p y2 Z h1 h2 hZ hR
    refine V_iloadn (pc := 25) dX4_survey_25 rfl ?_
    refine V_bipush (pc := 26) dX4_survey_26 (by decide +kernel) ?_
    refine V_icmp_ge (pc := 28) (tgt := 68) dX4_survey_28 (by decide) (by omega) (by decide) (fun h28 => ?_) (fun h28 => ?_)
    · exfalso; omega
    · refine V_iconst (pc := 31) dX4_survey_31 ?_
      refine V_istore_2 (pc := 32) dX4_survey_32 (by decide) rfl ?_
      refine l_svArmT ho hL hln hD (by omega) (fun hR2 t => ?_) 9 0 Z (by omega) (by omega) hZ rfl
      refine V_iinc_1 (pc := 62) dX4_survey_62 (by decide) rfl ?_
      refine V_goto (pc := 65) (tgt := 25) dX4_survey_65 (by decide) ?_
      exact ih _ _ _ (by omega) (by omega) hR2 (by rw [← hR, fAo_s])

set_option maxRecDepth 20000 in
theorem l_svOver {μ : Mem} {o : Nat} (ho : LandAt o) (hL : LOK μ o) (hln : ∀ r, 0 ≤ gLn μ o r ∧ gLn μ o r ≤ 99) {R : Row} {X : ZX} (hex : DB R → ∀ k y2, V X mX4_survey 23 [vr o, vi k, y2] [] (mw μ (o + 12) R)) : ∀ (n : Nat) (k : Int) (y2 : AV) (D : Row), (k + n = 9) → (0 ≤ k) → (DB D) → (fwN n k D = R) → V X mX4_survey 6 [vr o, vi k, y2] [] (mw μ (o + 12) D) := by
  intro n
  induction n with
  | zero =>
    intro k y2 D h1 h2 hD hR
    refine V_iloadn (pc := 6) dX4_survey_6 rfl ?_
    refine V_bipush (pc := 7) dX4_survey_7 (by decide +kernel) ?_
    refine V_icmp_ge (pc := 9) (tgt := 23) dX4_survey_9 (by decide) (by omega) (by decide) (fun h9 => ?_) (fun h9 => ?_)
    · obtain rfl : D = R := hR
      exact hex hD _ _
    · exfalso; omega
  | succ n ih =>
    intro k y2 D h1 h2 hD hR
    refine V_iloadn (pc := 6) dX4_survey_6 rfl ?_
    refine V_bipush (pc := 7) dX4_survey_7 (by decide +kernel) ?_
    refine V_icmp_ge (pc := 9) (tgt := 23) dX4_survey_9 (by decide) (by omega) (by decide) (fun h9 => ?_) (fun h9 => ?_)
    · exfalso; omega
    · refine V_aloadn (pc := 12) dX4_survey_12 rfl ?_
      refine V_iloadn (pc := 13) dX4_survey_13 rfl ?_
      refine V_cu1 (pc := 14) dX4_survey_14 kX4_102 (LandAt_k ho) (by decide) (Nat.le_of_ble_eq_true rfl) (s_shorten ho (by omega) hD) ?_
      refine V_iinc_1 (pc := 17) dX4_survey_17 (by decide) rfl ?_
      refine V_goto (pc := 20) (tgt := 6) dX4_survey_20 (by decide) ?_
      exact ih _ _ _ (by omega) (by omega) (shO_db (by omega) 9 0 D (by omega) (by omega) hD) (by rw [← hR, fwN_s])

set_option maxRecDepth 20000 in
theorem s_survey {μ : Mem} {o : Nat} (ho : LandAt o) (hL : LOK μ o) (hln : ∀ r, 0 ≤ gLn μ o r ∧ gLn μ o r ≤ 99) : SP mX4_survey [vr o] μ (fun w m => w = un ∧ m = svy μ o) := by
  refine SP_intro (ls := [vr o, un, un]) (by decide +kernel) rfl rfl (Nat.le_of_ble_eq_true rfl) rfl (fun X hX => ?_)
  have hD0 : ∀ x, inR (μ (o + 12) x) := fun x => hL.rg 12 x
  have hZ0 : ∀ x, inR (μ (o + 13) x) := fun x => hL.rg 13 x
  refine V_aloadn (pc := 0) dX4_survey_0 rfl ?_
  refine V_cu0 (pc := 1) dX4_survey_1 kX4_99 (LandAt_k ho) (by decide) (Nat.le_of_ble_eq_true rfl) ((mw_id μ (o + 12)) ▸ s_start (D := μ (o + 12)) ho hL hD0) ?_
  refine V_iconst (pc := 4) dX4_survey_4 ?_
  refine V_istore_1 (pc := 5) dX4_survey_5 (by decide) rfl ?_
  refine l_svOver ho hL hln (fun hDB k y2 => ?_) 9 0 _ _ (by omega) (by omega) (stD_db hln hD0) rfl
  refine V_iconst (pc := 23) dX4_survey_23 ?_
  refine V_istore_1 (pc := 24) dX4_survey_24 (by decide) rfl ?_
  have e : mw μ (o + 12) (fwN 9 0 (stD μ o (μ (o + 12)))) = mw (mw μ (o + 12) (svD μ o)) (o + 13) (μ (o + 13)) := by
    rw [show μ (o + 13) = mw μ (o + 12) (svD μ o) (o + 13) from (mw_ne (by omega)).symm, mw_id]; rfl
  rw [e]
  refine l_svArm ho hL hln hDB (fun p y2 => ?_) 9 0 _ _ (by omega) (by omega) hZ0 rfl
  refine V_iconst (pc := 68) dX4_survey_68 ?_
  refine V_istore_1 (pc := 69) dX4_survey_69 (by decide) rfl ?_
  rw [mw_comm (by omega)]
  exact l_svNeg ho hX 81 0 _ _ (by omega) (by omega) hDB.1 rfl


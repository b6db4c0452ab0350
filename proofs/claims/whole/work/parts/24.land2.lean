abbrev Row : Type := Nat → Int
def up (D : Row) (i : Nat) (v : Int) : Row := fun x => if x = i then v else D x
theorem mw_s {μ : Mem} {k : Nat} {r : Row} {b : Nat} : mw μ k r k b = r b := by simp [mw]
theorem mw_c {μ : Mem} {k : Nat} {r : Row} {a b : Nat} (h : a ≠ k) : mw μ k r a b = μ a b := by simp [mw, h]
theorem mu_mw {μ : Mem} {k i : Nat} {r : Row} {v : Int} : mu (mw μ k r) k i v = mw μ k (up r i v) := by
  funext a b
  by_cases h : a = k
  · subst h; simp [mu, mw, up]
  · simp [mu, mw, h]
theorem mw_id (μ : Mem) (k : Nat) : mw μ k (μ k) = μ := by
  funext a b
  by_cases h : a = k
  · subst h; simp [mw]
  · simp [mw, h]
theorem gOne_cg {μ ν : Mem} {o : Nat} (h1 : ν o = μ o) (h2 : ν (o + 4) = μ (o + 4)) (r : Int) : gOne ν o r = gOne μ o r := by unfold gOne; rw [h1, h2]
theorem gTwo_cg {μ ν : Mem} {o : Nat} (h1 : ν o = μ o) (h2 : ν (o + 5) = μ (o + 5)) (r : Int) : gTwo ν o r = gTwo μ o r := by unfold gTwo; rw [h1, h2]
theorem gLn_cg {μ ν : Mem} {o : Nat} (h1 : ν o = μ o) (h2 : ν (o + 6) = μ (o + 6)) (r : Int) : gLn ν o r = gLn μ o r := by unfold gLn; rw [h1, h2]
theorem gSd_cg {μ ν : Mem} {o : Nat} (h1 : ν o = μ o) (h2 : ν (o + 10) = μ (o + 10)) (p : Int) : gSd ν o p = gSd μ o p := by unfold gSd; rw [h1, h2]
theorem gRd_cg {μ ν : Mem} {o : Nat} (h1 : ν o = μ o) (h2 : ν (o + 10) = μ (o + 10)) (h3 : ν (o + 11) = μ (o + 11)) (p i : Int) : gRd ν o p i = gRd μ o p i := by unfold gRd; rw [h1, h2, h3]
theorem gBy_cg {μ ν : Mem} {o : Nat} (h1 : ν o = μ o) (h2 : ν (o + 4) = μ (o + 4)) (h3 : ν (o + 5) = μ (o + 5)) (p r : Int) : gBy ν o p r = gBy μ o p r := by unfold gBy; rw [gOne_cg h1 h2, gTwo_cg h1 h3]
theorem gArm_cg {μ ν : Mem} {o : Nat} (h1 : ν o = μ o) (h2 : ν (o + 13) = μ (o + 13)) (a b : Int) : gArm ν o a b = gArm μ o a b := by unfold gArm; rw [h1, h2]
/-- a row of a land is written, its numbers in bounds -/
theorem LOK_mw {μ : Mem} {o k : Nat} {D : Row} (h : LOK μ o) (h4 : 4 ≤ k) (h13 : k ≤ 13) (h10 : k ≠ 10) (hD : ∀ x, inR (D x)) : LOK (mw μ (o + k) D) o := by
  obtain ⟨a, b, c, d, e⟩ := h
  have h0 : mw μ (o + k) D o = μ o := mw_ne (by omega)
  refine ⟨by rw [h0]; exact a, by rw [h0]; exact b, by rw [h0]; exact c, fun p => ?_, fun k2 j h1 h2 => ?_⟩
  · rw [mw_ne (by omega)]; exact d p
  · by_cases hk : k2 = k
    · subst hk; rw [mw_self]; exact hD j
    · rw [mw_ne (by omega)]; exact e k2 j h1 h2

set_option maxRecDepth 20000 in
theorem s_hasAllPlaces {μ : Mem} {o : Nat} (ho : LandAt o) (hL : LOK μ o) {s : Int} (hs : inR s) : SP mX4_hasAllPlaces [vr o, vi s] μ (fun w m => w = vi (bi (0 ≤ s ∧ ishr s (μ o 0) = 0)) ∧ m = μ) := by
  refine SP_intro (ls := [vr o, vi s]) (by decide +kernel) rfl rfl (Nat.le_of_ble_eq_true rfl) rfl (fun X hX => ?_)
  obtain ⟨hL0, hL1, hL2, hL3, hL4⟩ := id hL
  have hg : inR (ishr s (μ o 0)) := zi_rg _
  refine V_iloadn (pc := 0) dX4_hasAllPlaces_0 rfl ?_
  refine V_if_lt (pc := 1) (tgt := 17) dX4_hasAllPlaces_1 (by decide) (by omega) (fun h1 => ?_) (fun h1 => ?_)
  · refine V_iconst (pc := 17) dX4_hasAllPlaces_17 ?_
    refine V_zret hX dX4_hasAllPlaces_18 rfl (by first | exact Or.inl rfl | exact Or.inr rfl | exact bi_01 _) ?_
    exact ⟨congrArg vi (by first | (exfalso; omega) | rw [bi_pos (by omega)] | rw [bi_neg (by omega)]), rfl⟩
  · refine V_iloadn (pc := 4) dX4_hasAllPlaces_4 rfl ?_
    refine V_aloadn (pc := 5) dX4_hasAllPlaces_5 rfl ?_
    refine V_geti (r := 0) (pc := 6) dX4_hasAllPlaces_6 fX4_42 (LandAt_k ho) ?_
    refine V_ishr (pc := 9) dX4_hasAllPlaces_9 ?_
    refine V_if_ne (pc := 10) (tgt := 17) dX4_hasAllPlaces_10 (by decide) (by omega) (fun h10 => ?_) (fun h10 => ?_)
    · refine V_iconst (pc := 17) dX4_hasAllPlaces_17 ?_
      refine V_zret hX dX4_hasAllPlaces_18 rfl (by first | exact Or.inl rfl | exact Or.inr rfl | exact bi_01 _) ?_
      exact ⟨congrArg vi (by first | (exfalso; omega) | rw [bi_pos (by omega)] | rw [bi_neg (by omega)]), rfl⟩
    · refine V_iconst (pc := 13) dX4_hasAllPlaces_13 ?_
      refine V_goto (pc := 14) (tgt := 18) dX4_hasAllPlaces_14 (by decide) ?_
      refine V_zret hX dX4_hasAllPlaces_18 rfl (by first | exact Or.inl rfl | exact Or.inr rfl | exact bi_01 _) ?_
      exact ⟨congrArg vi (by first | (exfalso; omega) | rw [bi_pos (by omega)] | rw [bi_neg (by omega)]), rfl⟩

set_option maxRecDepth 20000 in
theorem l_placesByArm {μ : Mem} {o : Nat} (ho : LandAt o) (hL : LOK μ o) {p i : Int} (hp : inR p) (hi : inR i) {X : ZX} {R : Int} (hX : isM X (fun w m => w = vi R ∧ m = μ)) : ∀ (n : Nat) (t acc : Int), (t + n = μ o 0) → (0 ≤ t) → (sb (fun t => gArm μ o p t = i) n t acc = R) → V X mX4_placesByArm 5 [vr o, vi p, vi i, vi acc, vi t] [] μ := by
  intro n
  induction n with
  | zero =>
    intro t acc h1 h2 hR
    obtain ⟨hL0, hL1, hL2, hL3, hL4⟩ := id hL
    have hg := gArm_rg hL p t
    refine V_iload (pc := 5) dX4_placesByArm_5 rfl ?_
    refine V_aloadn (pc := 7) dX4_placesByArm_7 rfl ?_
    refine V_geti (r := 0) (pc := 8) dX4_placesByArm_8 fX4_42 (LandAt_k ho) ?_
    refine V_icmp_ge (pc := 11) (tgt := 38) dX4_placesByArm_11 (by decide) (by omega) (by omega) (fun h11 => ?_) (fun h11 => ?_)
    · refine V_iloadn (pc := 38) dX4_placesByArm_38 rfl ?_
      refine V_iret hX dX4_placesByArm_39 rfl ?_
      exact ⟨congrArg vi hR, rfl⟩
    · exfalso; omega
  | succ n ih =>
    intro t acc h1 h2 hR
    obtain ⟨hL0, hL1, hL2, hL3, hL4⟩ := id hL
    have hg := gArm_rg hL p t
    refine V_iload (pc := 5) dX4_placesByArm_5 rfl ?_
    refine V_aloadn (pc := 7) dX4_placesByArm_7 rfl ?_
    refine V_geti (r := 0) (pc := 8) dX4_placesByArm_8 fX4_42 (LandAt_k ho) ?_
    refine V_icmp_ge (pc := 11) (tgt := 38) dX4_placesByArm_11 (by decide) (by omega) (by omega) (fun h11 => ?_) (fun h11 => ?_)
    · exfalso; omega
    · refine V_aloadn (pc := 14) dX4_placesByArm_14 rfl ?_
      refine V_iloadn (pc := 15) dX4_placesByArm_15 rfl ?_
      refine V_iload (pc := 16) dX4_placesByArm_16 rfl ?_
      refine V_cv2 (pc := 18) dX4_placesByArm_18 kX4_89 (LandAt_k ho) (by decide) (Nat.le_of_ble_eq_true rfl) (s_trueArm ho hL hp (by omega)) rfl ?_
      refine V_iloadn (pc := 21) dX4_placesByArm_21 rfl ?_
      refine V_icmp_ne (pc := 22) (tgt := 32) dX4_placesByArm_22 (by decide) (by omega) (by omega) (fun h22 => ?_) (fun h22 => ?_)
      · refine V_iinc_4 (pc := 32) dX4_placesByArm_32 (by decide) rfl ?_
        refine V_goto (pc := 35) (tgt := 5) dX4_placesByArm_35 (by decide) ?_
        exact ih _ _ (by omega) (by omega) (by rw [← hR, sb_s]; first | rw [if_pos (by omega)] | rw [if_neg (by omega)])
      · refine V_iloadn (pc := 25) dX4_placesByArm_25 rfl ?_
        refine V_iconst (pc := 26) dX4_placesByArm_26 ?_
        refine V_iload (pc := 27) dX4_placesByArm_27 rfl ?_
        refine V_ishl (pc := 29) dX4_placesByArm_29 ?_
        refine V_ior (pc := 30) dX4_placesByArm_30 ?_
        refine V_istore_3 (pc := 31) dX4_placesByArm_31 (by decide) rfl ?_
        refine V_iinc_4 (pc := 32) dX4_placesByArm_32 (by decide) rfl ?_
        refine V_goto (pc := 35) (tgt := 5) dX4_placesByArm_35 (by decide) ?_
        exact ih _ _ (by omega) (by omega) (by rw [← hR, sb_s]; first | rw [if_pos (by omega)] | rw [if_neg (by omega)])

set_option maxRecDepth 20000 in
theorem s_placesByArm {μ : Mem} {o : Nat} (ho : LandAt o) (hL : LOK μ o) {p i : Int} (hp : inR p) (hi : inR i) : SP mX4_placesByArm [vr o, vi p, vi i] μ (fun w m => w = vi (sb (fun t => gArm μ o p t = i) (μ o 0).toNat 0 0) ∧ m = μ) := by
  refine SP_intro (ls := [vr o, vi p, vi i, un, un]) (by decide +kernel) rfl rfl (Nat.le_of_ble_eq_true rfl) rfl (fun X hX => ?_)
  obtain ⟨hL0, hL1, hL2, hL3, hL4⟩ := id hL
  refine V_iconst (pc := 0) dX4_placesByArm_0 ?_
  refine V_istore_3 (pc := 1) dX4_placesByArm_1 (by decide) rfl ?_
  refine V_iconst (pc := 2) dX4_placesByArm_2 ?_
  refine V_istore_4 (pc := 3) dX4_placesByArm_3 (by decide) rfl ?_
  exact l_placesByArm ho hL hp hi hX (μ o 0).toNat 0 0 (by omega) (by omega) rfl

/-- the first side from s on, n of them, beyond whose road lies q -/
def sTw (μ : Mem) (o : Nat) (p q : Int) : Nat → Int → Int
  | 0, _ => -1
  | n + 1, s => if gBy μ o p (gRd μ o p s) = q then s else sTw μ o p q n (s + 1)
theorem sTw_s {μ : Mem} {o : Nat} {p q : Int} {n : Nat} {s : Int} : sTw μ o p q (n + 1) s = if gBy μ o p (gRd μ o p s) = q then s else sTw μ o p q n (s + 1) := rfl

set_option maxRecDepth 20000 in
theorem l_sideTowards {μ : Mem} {o : Nat} (ho : LandAt o) (hL : LOK μ o) {p q : Int} (hp : inR p) (hq : inR q) {X : ZX} {R : Int} (hX : isM X (fun w m => w = vi R ∧ m = μ)) : ∀ (n : Nat) (s : Int), (s + n = gSd μ o p) → (0 ≤ s) → (sTw μ o p q n s = R) → V X mX4_sideTowards 2 [vr o, vi p, vi q, vi s] [] μ := by
  intro n
  induction n with
  | zero =>
    intro s h1 h2 hR
    obtain ⟨hL0, hL1, hL2, hL3, hL4⟩ := id hL
    have hg := gSd_rg hL p
    have h5 := gRd_rg hL p s
    have h6 := gBy_rg hL p (gRd μ o p s)
    refine V_iloadn (pc := 2) dX4_sideTowards_2 rfl ?_
    refine V_aloadn (pc := 3) dX4_sideTowards_3 rfl ?_
    refine V_iloadn (pc := 4) dX4_sideTowards_4 rfl ?_
    refine V_cv1 (pc := 5) dX4_sideTowards_5 kX4_79 (LandAt_k ho) (by decide) (Nat.le_of_ble_eq_true rfl) (s_sidesOf ho hL hp) rfl ?_
    refine V_icmp_ge (pc := 8) (tgt := 34) dX4_sideTowards_8 (by decide) (by omega) (by omega) (fun h8 => ?_) (fun h8 => ?_)
    · refine V_iconst (pc := 34) dX4_sideTowards_34 ?_
      refine V_iret hX dX4_sideTowards_35 rfl ?_
      exact ⟨congrArg vi hR, rfl⟩
    · exfalso; omega
  | succ n ih =>
    intro s h1 h2 hR
    obtain ⟨hL0, hL1, hL2, hL3, hL4⟩ := id hL
    have hg := gSd_rg hL p
    have h5 := gRd_rg hL p s
    have h6 := gBy_rg hL p (gRd μ o p s)
    refine V_iloadn (pc := 2) dX4_sideTowards_2 rfl ?_
    refine V_aloadn (pc := 3) dX4_sideTowards_3 rfl ?_
    refine V_iloadn (pc := 4) dX4_sideTowards_4 rfl ?_
    refine V_cv1 (pc := 5) dX4_sideTowards_5 kX4_79 (LandAt_k ho) (by decide) (Nat.le_of_ble_eq_true rfl) (s_sidesOf ho hL hp) rfl ?_
    refine V_icmp_ge (pc := 8) (tgt := 34) dX4_sideTowards_8 (by decide) (by omega) (by omega) (fun h8 => ?_) (fun h8 => ?_)
    · exfalso; omega
    · refine V_aloadn (pc := 11) dX4_sideTowards_11 rfl ?_
      refine V_iloadn (pc := 12) dX4_sideTowards_12 rfl ?_
      refine V_aloadn (pc := 13) dX4_sideTowards_13 rfl ?_
      refine V_iloadn (pc := 14) dX4_sideTowards_14 rfl ?_
      refine V_iloadn (pc := 15) dX4_sideTowards_15 rfl ?_
      refine V_cv2 (pc := 16) dX4_sideTowards_16 kX4_82 (LandAt_k ho) (by decide) (Nat.le_of_ble_eq_true rfl) (s_roadAtSide ho hL hp (by omega)) rfl ?_
      refine V_cv2 (pc := 19) dX4_sideTowards_19 kX4_86 (LandAt_k ho) (by decide) (Nat.le_of_ble_eq_true rfl) (s_beyondRoad ho hL hp h5) rfl ?_
      refine V_iloadn (pc := 22) dX4_sideTowards_22 rfl ?_
      refine V_icmp_ne (pc := 23) (tgt := 28) dX4_sideTowards_23 (by decide) (by omega) (by omega) (fun h23 => ?_) (fun h23 => ?_)
      · refine V_iinc_3 (pc := 28) dX4_sideTowards_28 (by decide) rfl ?_
        refine V_goto (pc := 31) (tgt := 2) dX4_sideTowards_31 (by decide) ?_
        exact ih _ (by omega) (by omega) (by rw [← hR, sTw_s, if_neg (by omega)])
      · refine V_iloadn (pc := 26) dX4_sideTowards_26 rfl ?_
        refine V_iret hX dX4_sideTowards_27 rfl ?_
        exact ⟨congrArg vi (by rw [← hR, sTw_s, if_pos (by omega)]), rfl⟩

set_option maxRecDepth 20000 in
theorem s_sideTowards {μ : Mem} {o : Nat} (ho : LandAt o) (hL : LOK μ o) {p q : Int} (hp : inR p) (hq : inR q) : SP mX4_sideTowards [vr o, vi p, vi q] μ (fun w m => w = vi (sTw μ o p q (gSd μ o p).toNat 0) ∧ m = μ) := by
  refine SP_intro (ls := [vr o, vi p, vi q, un]) (by decide +kernel) rfl rfl (Nat.le_of_ble_eq_true rfl) rfl (fun X hX => ?_)
  have hg := gSd_rg hL p
  refine V_iconst (pc := 0) dX4_sideTowards_0 ?_
  refine V_istore_3 (pc := 1) dX4_sideTowards_1 (by decide) rfl ?_
  exact l_sideTowards ho hL hp hq hX (gSd μ o p).toNat 0 (by omega) (by omega) rfl

abbrev jn (μ : Mem) (o : Nat) (a b : Int) (r : Nat) : Prop := (μ (o + 4) r = a ∧ μ (o + 5) r = b) ∨ (μ (o + 4) r = b ∧ μ (o + 5) r = a)
set_option maxRecDepth 20000 in
theorem l_isJoined {μ : Mem} {o : Nat} (ho : LandAt o) (hL : LOK μ o) {a b : Int} (ha : inR a) (hb : inR b) {X : ZX} (hX : isM X (fun w m => w = vi (bi (¬ ∀ r : Nat, r < (μ o 1).toNat → ¬ jn μ o a b r)) ∧ m = μ)) : ∀ (n : Nat) (r : Int), (r + n = μ o 1) → (0 ≤ r) → (∀ u : Nat, u < r.toNat → ¬ jn μ o a b u) → V X mX4_isJoined 2 [vr o, vi a, vi b, vi r] [] μ := by
  intro n
  induction n with
  | zero =>
    intro r h1 h2 h3
    obtain ⟨hL0, hL1, hL2, hL3, hL4⟩ := id hL
    have g1 := hL.rg 4 r.toNat
    have g2 := hL.rg 5 r.toNat
    refine V_iloadn (pc := 2) dX4_isJoined_2 rfl ?_
    refine V_aloadn (pc := 3) dX4_isJoined_3 rfl ?_
    refine V_geti (r := 0) (pc := 4) dX4_isJoined_4 fX4_46 (LandAt_k ho) ?_
    refine V_icmp_ge (pc := 7) (tgt := 64) dX4_isJoined_7 (by decide) (by omega) (by omega) (fun h7 => ?_) (fun h7 => ?_)
    · refine V_iconst (pc := 64) dX4_isJoined_64 ?_
      refine V_zret hX dX4_isJoined_65 rfl (by first | exact Or.inl rfl | exact Or.inr rfl | exact bi_01 _) ?_
      exact ⟨congrArg vi (by rw [bi_neg (fun h => h (fun u hu => h3 u (by omega)))]), rfl⟩
    · exfalso; omega
  | succ n ih =>
    intro r h1 h2 h3
    obtain ⟨hL0, hL1, hL2, hL3, hL4⟩ := id hL
    have g1 := hL.rg 4 r.toNat
    have g2 := hL.rg 5 r.toNat
    refine V_iloadn (pc := 2) dX4_isJoined_2 rfl ?_
    refine V_aloadn (pc := 3) dX4_isJoined_3 rfl ?_
    refine V_geti (r := 0) (pc := 4) dX4_isJoined_4 fX4_46 (LandAt_k ho) ?_
    refine V_icmp_ge (pc := 7) (tgt := 64) dX4_isJoined_7 (by decide) (by omega) (by omega) (fun h7 => ?_) (fun h7 => ?_)
    · exfalso; omega
    · refine V_iloadn (pc := 10) dX4_isJoined_10 rfl ?_
      refine V_bipush (pc := 11) dX4_isJoined_11 (by decide +kernel) ?_
      refine V_icmp_ge (pc := 13) (tgt := 64) dX4_isJoined_13 (by decide) (by omega) (by decide) (fun h13 => ?_) (fun h13 => ?_)
      · exfalso; omega
      · refine V_aloadn (pc := 16) dX4_isJoined_16 rfl ?_
        refine V_getr (pc := 17) dX4_isJoined_17 fX4_9 (LandAt_k ho) (LandAt_z3 ho) ?_
        refine V_iloadn (pc := 20) dX4_isJoined_20 rfl ?_
        refine V_iald (pc := 21) dX4_isJoined_21 (LandAt_a3 ho) (by omega) (by omega) (by decide) ?_
        refine V_iloadn (pc := 22) dX4_isJoined_22 rfl ?_
        refine V_icmp_ne (pc := 23) (tgt := 36) dX4_isJoined_23 (by decide) (by omega) (by omega) (fun h23 => ?_) (fun h23 => ?_)
        · refine V_aloadn (pc := 36) dX4_isJoined_36 rfl ?_
          refine V_getr (pc := 37) dX4_isJoined_37 fX4_9 (LandAt_k ho) (LandAt_z3 ho) ?_
          refine V_iloadn (pc := 40) dX4_isJoined_40 rfl ?_
          refine V_iald (pc := 41) dX4_isJoined_41 (LandAt_a3 ho) (by omega) (by omega) (by decide) ?_
          refine V_iloadn (pc := 42) dX4_isJoined_42 rfl ?_
          refine V_icmp_ne (pc := 43) (tgt := 58) dX4_isJoined_43 (by decide) (by omega) (by omega) (fun h43 => ?_) (fun h43 => ?_)
          · refine V_iinc_3 (pc := 58) dX4_isJoined_58 (by decide) rfl ?_
            refine V_goto (pc := 61) (tgt := 2) dX4_isJoined_61 (by decide) ?_
            exact ih _ (by omega) (by omega) (fun u hu => by
                by_cases e : u < r.toNat
                · exact h3 u e
                · have e2 : u = r.toNat := by omega
                  subst e2; unfold jn; omega)
          · refine V_aloadn (pc := 46) dX4_isJoined_46 rfl ?_
            refine V_getr (pc := 47) dX4_isJoined_47 fX4_15 (LandAt_k ho) (LandAt_z4 ho) ?_
            refine V_iloadn (pc := 50) dX4_isJoined_50 rfl ?_
            refine V_iald (pc := 51) dX4_isJoined_51 (LandAt_a4 ho) (by omega) (by omega) (by decide) ?_
            refine V_iloadn (pc := 52) dX4_isJoined_52 rfl ?_
            refine V_icmp_ne (pc := 53) (tgt := 58) dX4_isJoined_53 (by decide) (by omega) (by omega) (fun h53 => ?_) (fun h53 => ?_)
            · refine V_iinc_3 (pc := 58) dX4_isJoined_58 (by decide) rfl ?_
              refine V_goto (pc := 61) (tgt := 2) dX4_isJoined_61 (by decide) ?_
              exact ih _ (by omega) (by omega) (fun u hu => by
                  by_cases e : u < r.toNat
                  · exact h3 u e
                  · have e2 : u = r.toNat := by omega
                    subst e2; unfold jn; omega)
            · refine V_iconst (pc := 56) dX4_isJoined_56 ?_
              refine V_zret hX dX4_isJoined_57 rfl (by first | exact Or.inl rfl | exact Or.inr rfl | exact bi_01 _) ?_
              exact ⟨congrArg vi (bi_pos (c := ¬ ∀ r : Nat, r < (μ o 1).toNat → ¬ jn μ o a b r) (fun h => h r.toNat (by omega) (by unfold jn; omega))).symm, rfl⟩
        · refine V_aloadn (pc := 26) dX4_isJoined_26 rfl ?_
          refine V_getr (pc := 27) dX4_isJoined_27 fX4_15 (LandAt_k ho) (LandAt_z4 ho) ?_
          refine V_iloadn (pc := 30) dX4_isJoined_30 rfl ?_
          refine V_iald (pc := 31) dX4_isJoined_31 (LandAt_a4 ho) (by omega) (by omega) (by decide) ?_
          refine V_iloadn (pc := 32) dX4_isJoined_32 rfl ?_
          refine V_icmp_eq (pc := 33) (tgt := 56) dX4_isJoined_33 (by decide) (by omega) (by omega) (fun h33 => ?_) (fun h33 => ?_)
          · refine V_iconst (pc := 56) dX4_isJoined_56 ?_
            refine V_zret hX dX4_isJoined_57 rfl (by first | exact Or.inl rfl | exact Or.inr rfl | exact bi_01 _) ?_
            exact ⟨congrArg vi (bi_pos (c := ¬ ∀ r : Nat, r < (μ o 1).toNat → ¬ jn μ o a b r) (fun h => h r.toNat (by omega) (by unfold jn; omega))).symm, rfl⟩
          · refine V_aloadn (pc := 36) dX4_isJoined_36 rfl ?_
            refine V_getr (pc := 37) dX4_isJoined_37 fX4_9 (LandAt_k ho) (LandAt_z3 ho) ?_
            refine V_iloadn (pc := 40) dX4_isJoined_40 rfl ?_
            refine V_iald (pc := 41) dX4_isJoined_41 (LandAt_a3 ho) (by omega) (by omega) (by decide) ?_
            refine V_iloadn (pc := 42) dX4_isJoined_42 rfl ?_
            refine V_icmp_ne (pc := 43) (tgt := 58) dX4_isJoined_43 (by decide) (by omega) (by omega) (fun h43 => ?_) (fun h43 => ?_)
            · refine V_iinc_3 (pc := 58) dX4_isJoined_58 (by decide) rfl ?_
              refine V_goto (pc := 61) (tgt := 2) dX4_isJoined_61 (by decide) ?_
              exact ih _ (by omega) (by omega) (fun u hu => by
                  by_cases e : u < r.toNat
                  · exact h3 u e
                  · have e2 : u = r.toNat := by omega
                    subst e2; unfold jn; omega)
            · refine V_aloadn (pc := 46) dX4_isJoined_46 rfl ?_
              refine V_getr (pc := 47) dX4_isJoined_47 fX4_15 (LandAt_k ho) (LandAt_z4 ho) ?_
              refine V_iloadn (pc := 50) dX4_isJoined_50 rfl ?_
              refine V_iald (pc := 51) dX4_isJoined_51 (LandAt_a4 ho) (by omega) (by omega) (by decide) ?_
              refine V_iloadn (pc := 52) dX4_isJoined_52 rfl ?_
              refine V_icmp_ne (pc := 53) (tgt := 58) dX4_isJoined_53 (by decide) (by omega) (by omega) (fun h53 => ?_) (fun h53 => ?_)
              · refine V_iinc_3 (pc := 58) dX4_isJoined_58 (by decide) rfl ?_
                refine V_goto (pc := 61) (tgt := 2) dX4_isJoined_61 (by decide) ?_
                exact ih _ (by omega) (by omega) (fun u hu => by
                    by_cases e : u < r.toNat
                    · exact h3 u e
                    · have e2 : u = r.toNat := by omega
                      subst e2; unfold jn; omega)
              · refine V_iconst (pc := 56) dX4_isJoined_56 ?_
                refine V_zret hX dX4_isJoined_57 rfl (by first | exact Or.inl rfl | exact Or.inr rfl | exact bi_01 _) ?_
                exact ⟨congrArg vi (bi_pos (c := ¬ ∀ r : Nat, r < (μ o 1).toNat → ¬ jn μ o a b r) (fun h => h r.toNat (by omega) (by unfold jn; omega))).symm, rfl⟩

set_option maxRecDepth 20000 in
theorem s_isJoined {μ : Mem} {o : Nat} (ho : LandAt o) (hL : LOK μ o) {a b : Int} (ha : inR a) (hb : inR b) : SP mX4_isJoined [vr o, vi a, vi b] μ (fun w m => w = vi (bi (¬ ∀ r : Nat, r < (μ o 1).toNat → ¬ jn μ o a b r)) ∧ m = μ) := by
  refine SP_intro (ls := [vr o, vi a, vi b, un]) (by decide +kernel) rfl rfl (Nat.le_of_ble_eq_true rfl) rfl (fun X hX => ?_)
  obtain ⟨hL0, hL1, hL2, hL3, hL4⟩ := id hL
  refine V_iconst (pc := 0) dX4_isJoined_0 ?_
  refine V_istore_3 (pc := 1) dX4_isJoined_1 (by decide) rfl ?_
  exact l_isJoined ho hL ha hb hX (μ o 1).toNat 0 (by omega) (by omega) (fun u hu => by omega)

set_option maxRecDepth 20000 in
theorem s_mayJoin {μ : Mem} {o : Nat} (ho : LandAt o) (hL : LOK μ o) {a b : Int} (ha : inR a) (hb : inR b) : SP mX4_mayJoin [vr o, vi a, vi b] μ (fun w m => w = vi (bi (¬ a = b ∧ (∀ r : Nat, r < (μ o 1).toNat → ¬ jn μ o a b r) ∧ gSd μ o a < 5 ∧ gSd μ o b < 5)) ∧ m = μ) := by
  refine SP_intro (ls := [vr o, vi a, vi b]) (by decide +kernel) rfl rfl (Nat.le_of_ble_eq_true rfl) rfl (fun X hX => ?_)
  obtain ⟨hL0, hL1, hL2, hL3, hL4⟩ := id hL
  have g1 := gSd_rg hL a
  have g2 := gSd_rg hL b
  refine V_iloadn (pc := 0) dX4_mayJoin_0 rfl ?_
  refine V_iloadn (pc := 1) dX4_mayJoin_1 rfl ?_
  refine V_icmp_eq (pc := 2) (tgt := 36) dX4_mayJoin_2 (by decide) (by omega) (by omega) (fun h2 => ?_) (fun h2 => ?_)
  · refine V_iconst (pc := 36) dX4_mayJoin_36 ?_
    refine V_zret hX dX4_mayJoin_37 rfl (by first | exact Or.inl rfl | exact Or.inr rfl | exact bi_01 _) ?_
    exact ⟨congrArg vi (by first | (rw [bi_neg (fun h => by obtain ⟨q1, q2, q3, q4⟩ := h; first | omega | exact absurd q2 (by assumption))]; done) | (rw [bi_pos ⟨by assumption, Classical.byContradiction (by assumption), by omega, by omega⟩])), rfl⟩
  · refine V_aloadn (pc := 5) dX4_mayJoin_5 rfl ?_
    refine V_iloadn (pc := 6) dX4_mayJoin_6 rfl ?_
    refine V_iloadn (pc := 7) dX4_mayJoin_7 rfl ?_
    refine V_cv2 (pc := 8) dX4_mayJoin_8 kX4_92 (LandAt_k ho) (by decide) (Nat.le_of_ble_eq_true rfl) (s_isJoined ho hL ha hb) rfl ?_
    refine V_ifne_b (pc := 11) (tgt := 36) dX4_mayJoin_11 (by decide) (fun h11 => ?_) (fun h11 => ?_)
    · refine V_iconst (pc := 36) dX4_mayJoin_36 ?_
      refine V_zret hX dX4_mayJoin_37 rfl (by first | exact Or.inl rfl | exact Or.inr rfl | exact bi_01 _) ?_
      exact ⟨congrArg vi (by first | (rw [bi_neg (fun h => by obtain ⟨q1, q2, q3, q4⟩ := h; first | omega | exact absurd q2 (by assumption))]; done) | (rw [bi_pos ⟨by assumption, Classical.byContradiction (by assumption), by omega, by omega⟩])), rfl⟩
    · refine V_aloadn (pc := 14) dX4_mayJoin_14 rfl ?_
      refine V_iloadn (pc := 15) dX4_mayJoin_15 rfl ?_
      refine V_cv1 (pc := 16) dX4_mayJoin_16 kX4_79 (LandAt_k ho) (by decide) (Nat.le_of_ble_eq_true rfl) (s_sidesOf ho hL (by assumption)) rfl ?_
      refine V_iconst (pc := 19) dX4_mayJoin_19 ?_
      refine V_icmp_ge (pc := 20) (tgt := 36) dX4_mayJoin_20 (by decide) (by omega) (by decide) (fun h20 => ?_) (fun h20 => ?_)
      · refine V_iconst (pc := 36) dX4_mayJoin_36 ?_
        refine V_zret hX dX4_mayJoin_37 rfl (by first | exact Or.inl rfl | exact Or.inr rfl | exact bi_01 _) ?_
        exact ⟨congrArg vi (by first | (rw [bi_neg (fun h => by obtain ⟨q1, q2, q3, q4⟩ := h; first | omega | exact absurd q2 (by assumption))]; done) | (rw [bi_pos ⟨by assumption, Classical.byContradiction (by assumption), by omega, by omega⟩])), rfl⟩
      · refine V_aloadn (pc := 23) dX4_mayJoin_23 rfl ?_
        refine V_iloadn (pc := 24) dX4_mayJoin_24 rfl ?_
        refine V_cv1 (pc := 25) dX4_mayJoin_25 kX4_79 (LandAt_k ho) (by decide) (Nat.le_of_ble_eq_true rfl) (s_sidesOf ho hL (by assumption)) rfl ?_
        refine V_iconst (pc := 28) dX4_mayJoin_28 ?_
        refine V_icmp_ge (pc := 29) (tgt := 36) dX4_mayJoin_29 (by decide) (by omega) (by decide) (fun h29 => ?_) (fun h29 => ?_)
        · refine V_iconst (pc := 36) dX4_mayJoin_36 ?_
          refine V_zret hX dX4_mayJoin_37 rfl (by first | exact Or.inl rfl | exact Or.inr rfl | exact bi_01 _) ?_
          exact ⟨congrArg vi (by first | (rw [bi_neg (fun h => by obtain ⟨q1, q2, q3, q4⟩ := h; first | omega | exact absurd q2 (by assumption))]; done) | (rw [bi_pos ⟨by assumption, Classical.byContradiction (by assumption), by omega, by omega⟩])), rfl⟩
        · refine V_iconst (pc := 32) dX4_mayJoin_32 ?_
          refine V_goto (pc := 33) (tgt := 37) dX4_mayJoin_33 (by decide) ?_
          refine V_zret hX dX4_mayJoin_37 rfl (by first | exact Or.inl rfl | exact Or.inr rfl | exact bi_01 _) ?_
          exact ⟨congrArg vi (by first | (rw [bi_neg (fun h => by obtain ⟨q1, q2, q3, q4⟩ := h; first | omega | exact absurd q2 (by assumption))]; done) | (rw [bi_pos ⟨by assumption, Classical.byContradiction (by assumption), by omega, by omega⟩])), rfl⟩

set_option maxRecDepth 20000 in
theorem s_setPlaces {μ : Mem} {o : Nat} (ho : LandAt o) {n : Int} (hn : 0 ≤ n ∧ n ≤ 9) : SP mX4_setPlaces [vr o, vi n] μ (fun w m => w = un ∧ m = mu μ o 0 n) := by
  refine SP_intro (ls := [vr o, vi n]) (by decide +kernel) rfl rfl (Nat.le_of_ble_eq_true rfl) rfl (fun X hX => ?_)
  refine V_iloadn (pc := 0) dX4_setPlaces_0 rfl ?_
  refine V_if_lt (pc := 1) (tgt := 15) dX4_setPlaces_1 (by decide) (by omega) (fun h1 => ?_) (fun h1 => ?_)
  · exfalso; omega
  · refine V_iloadn (pc := 4) dX4_setPlaces_4 rfl ?_
    refine V_bipush (pc := 5) dX4_setPlaces_5 (by decide +kernel) ?_
    refine V_icmp_gt (pc := 7) (tgt := 15) dX4_setPlaces_7 (by decide) (by omega) (by decide) (fun h7 => ?_) (fun h7 => ?_)
    · exfalso; omega
    · refine V_aloadn (pc := 10) dX4_setPlaces_10 rfl ?_
      refine V_iloadn (pc := 11) dX4_setPlaces_11 rfl ?_
      refine V_puti (pc := 12) dX4_setPlaces_12 fX4_42 (LandAt_k ho) ?_
      refine V_vret (x := 0) hX dX4_setPlaces_15 rfl ?_
      exact ⟨rfl, rfl⟩

def aSide (μ : Mem) (o : Nat) (p r : Int) : Mem := mu (mu μ (o + 11) (p * 5 + μ (o + 10) p.toNat).toNat r) (o + 10) p.toNat (μ (o + 10) p.toNat + 1)
def aRoad (μ : Mem) (o : Nat) (a b m : Int) : Mem := mu (aSide (aSide (mu (mu (mu μ (o + 4) (μ o 1).toNat a) (o + 5) (μ o 1).toNat b) (o + 6) (μ o 1).toNat m) o a (μ o 1)) o b (μ o 1)) o 1 (μ o 1 + 1)
def aTrav (μ : Mem) (o : Nat) (a b m : Int) : Mem := mu (mu (mu (mu μ (o + 7) (μ o 2).toNat a) (o + 8) (μ o 2).toNat b) (o + 9) (μ o 2).toNat m) o 2 (μ o 2 + 1)

set_option maxRecDepth 20000 in
theorem s_addSide {μ : Mem} {o : Nat} (ho : LandAt o) (hL : LOK μ o) {p r : Int} (hp : 0 ≤ p ∧ p < μ o 0) (hs : μ (o + 10) p.toNat < 5) : SP mX4_addSide [vr o, vi p, vi r] μ (fun w m => w = un ∧ m = aSide μ o p r) := by
  refine SP_intro (ls := [vr o, vi p, vi r]) (by decide +kernel) rfl rfl (Nat.le_of_ble_eq_true rfl) rfl (fun X hX => ?_)
  obtain ⟨hL0, hL1, hL2, hL3, hL4⟩ := id hL
  have g1 := hL3 p.toNat
  refine V_aloadn (pc := 0) dX4_addSide_0 rfl ?_
  refine V_iloadn (pc := 1) dX4_addSide_1 rfl ?_
  refine V_cv1 (pc := 2) dX4_addSide_2 kX4_58 (LandAt_k ho) (by decide) (Nat.le_of_ble_eq_true rfl) (s_hasPlace ho hL (by omega)) rfl ?_
  refine V_ifeq_b (pc := 5) (tgt := 53) dX4_addSide_5 (by decide) (fun h5 => ?_) (fun h5 => ?_)
  · exfalso; omega
  · refine V_aloadn (pc := 8) dX4_addSide_8 rfl ?_
    refine V_getr (pc := 9) dX4_addSide_9 fX4_30 (LandAt_k ho) (LandAt_z9 ho) ?_
    refine V_iloadn (pc := 12) dX4_addSide_12 rfl ?_
    refine V_iald (pc := 13) dX4_addSide_13 (LandAt_a9 ho) (by omega) (by omega) (by decide) ?_
    refine V_if_lt (pc := 14) (tgt := 53) dX4_addSide_14 (by decide) (by omega) (fun h14 => ?_) (fun h14 => ?_)
    · exfalso; omega
    · refine V_aloadn (pc := 17) dX4_addSide_17 rfl ?_
      refine V_getr (pc := 18) dX4_addSide_18 fX4_30 (LandAt_k ho) (LandAt_z9 ho) ?_
      refine V_iloadn (pc := 21) dX4_addSide_21 rfl ?_
      refine V_iald (pc := 22) dX4_addSide_22 (LandAt_a9 ho) (by omega) (by omega) (by decide) ?_
      refine V_iconst (pc := 23) dX4_addSide_23 ?_
      refine V_icmp_ge (pc := 24) (tgt := 53) dX4_addSide_24 (by decide) (by omega) (by decide) (fun h24 => ?_) (fun h24 => ?_)
      · exfalso; omega
      · refine V_aloadn (pc := 27) dX4_addSide_27 rfl ?_
        refine V_getr (pc := 28) dX4_addSide_28 fX4_33 (LandAt_k ho) (LandAt_z10 ho) ?_
        refine V_iloadn (pc := 31) dX4_addSide_31 rfl ?_
        refine V_iconst (pc := 32) dX4_addSide_32 ?_
        refine V_imul (pc := 33) dX4_addSide_33 ?_
        refine V_aloadn (pc := 34) dX4_addSide_34 rfl ?_
        refine V_getr (pc := 35) dX4_addSide_35 fX4_30 (LandAt_k ho) (LandAt_z9 ho) ?_
        refine V_iloadn (pc := 38) dX4_addSide_38 rfl ?_
        refine V_iald (pc := 39) dX4_addSide_39 (LandAt_a9 ho) (by omega) (by omega) (by decide) ?_
        refine V_iadd (pc := 40) dX4_addSide_40 ?_
        refine V_iloadn (pc := 41) dX4_addSide_41 rfl ?_
        refine V_iast (pc := 42) dX4_addSide_42 (LandAt_a10 ho) (by omega) (by omega) (by decide) ?_
        refine V_aloadn (pc := 43) dX4_addSide_43 rfl ?_
        refine V_getr (pc := 44) dX4_addSide_44 fX4_30 (LandAt_k ho) (LandAt_z9 ho) ?_
        refine V_iloadn (pc := 47) dX4_addSide_47 rfl ?_
        refine V_dup2_ir (pc := 48) dX4_addSide_48 ?_
        refine V_iald (pc := 49) dX4_addSide_49 (LandAt_a9 ho) (by omega) (by omega) (by decide) ?_
        rw [mu_c (by omega : ((o + 10) : Nat) ≠ (o + 11))]
        refine V_iconst (pc := 50) dX4_addSide_50 ?_
        refine V_iadd (pc := 51) dX4_addSide_51 ?_
        refine V_iast (pc := 52) dX4_addSide_52 (LandAt_a9 ho) (by omega) (by omega) (by decide) ?_
        refine V_vret (x := 0) hX dX4_addSide_53 rfl ?_
        exact ⟨rfl, rfl⟩

set_option maxRecDepth 20000 in
theorem s_addTravel {μ : Mem} {o : Nat} (ho : LandAt o) (h : 0 ≤ μ o 2 ∧ μ o 2 < 20) {a b k : Int} : SP mX4_addTravel [vr o, vi a, vi b, vi k] μ (fun w m => w = un ∧ m = aTrav μ o a b k) := by
  refine SP_intro (ls := [vr o, vi a, vi b, vi k]) (by decide +kernel) rfl rfl (Nat.le_of_ble_eq_true rfl) rfl (fun X hX => ?_)
  refine V_aloadn (pc := 0) dX4_addTravel_0 rfl ?_
  refine V_geti (r := 0) (pc := 1) dX4_addTravel_1 fX4_49 (LandAt_k ho) ?_
  refine V_if_lt (pc := 4) (tgt := 56) dX4_addTravel_4 (by decide) (by omega) (fun h4 => ?_) (fun h4 => ?_)
  · exfalso; omega
  · refine V_aloadn (pc := 7) dX4_addTravel_7 rfl ?_
    refine V_geti (r := 0) (pc := 8) dX4_addTravel_8 fX4_49 (LandAt_k ho) ?_
    refine V_bipush (pc := 11) dX4_addTravel_11 (by decide +kernel) ?_
    refine V_icmp_ge (pc := 13) (tgt := 56) dX4_addTravel_13 (by decide) (by omega) (by decide) (fun h13 => ?_) (fun h13 => ?_)
    · exfalso; omega
    · refine V_aloadn (pc := 16) dX4_addTravel_16 rfl ?_
      refine V_getr (pc := 17) dX4_addTravel_17 fX4_21 (LandAt_k ho) (LandAt_z6 ho) ?_
      refine V_aloadn (pc := 20) dX4_addTravel_20 rfl ?_
      refine V_geti (r := 0) (pc := 21) dX4_addTravel_21 fX4_49 (LandAt_k ho) ?_
      refine V_iloadn (pc := 24) dX4_addTravel_24 rfl ?_
      refine V_iast (pc := 25) dX4_addTravel_25 (LandAt_a6 ho) (by omega) (by omega) (by decide) ?_
      refine V_aloadn (pc := 26) dX4_addTravel_26 rfl ?_
      refine V_getr (pc := 27) dX4_addTravel_27 fX4_24 (LandAt_k ho) (LandAt_z7 ho) ?_
      refine V_aloadn (pc := 30) dX4_addTravel_30 rfl ?_
      refine V_geti (r := 0) (pc := 31) dX4_addTravel_31 fX4_49 (LandAt_k ho) ?_
      rw [mu_c (by omega : (o : Nat) ≠ (o + 7))]
      refine V_iloadn (pc := 34) dX4_addTravel_34 rfl ?_
      refine V_iast (pc := 35) dX4_addTravel_35 (LandAt_a7 ho) (by omega) (by omega) (by decide) ?_
      refine V_aloadn (pc := 36) dX4_addTravel_36 rfl ?_
      refine V_getr (pc := 37) dX4_addTravel_37 fX4_27 (LandAt_k ho) (LandAt_z8 ho) ?_
      refine V_aloadn (pc := 40) dX4_addTravel_40 rfl ?_
      refine V_geti (r := 0) (pc := 41) dX4_addTravel_41 fX4_49 (LandAt_k ho) ?_
      rw [mu_c (by omega : (o : Nat) ≠ (o + 8))]
      rw [mu_c (by omega : (o : Nat) ≠ (o + 7))]
      refine V_iloadn (pc := 44) dX4_addTravel_44 rfl ?_
      refine V_iast (pc := 45) dX4_addTravel_45 (LandAt_a8 ho) (by omega) (by omega) (by decide) ?_
      refine V_aloadn (pc := 46) dX4_addTravel_46 rfl ?_
      refine V_dup_r (pc := 47) dX4_addTravel_47 ?_
      refine V_geti (r := 0) (pc := 48) dX4_addTravel_48 fX4_49 (LandAt_k ho) ?_
      rw [mu_c (by omega : (o : Nat) ≠ (o + 9))]
      rw [mu_c (by omega : (o : Nat) ≠ (o + 8))]
      rw [mu_c (by omega : (o : Nat) ≠ (o + 7))]
      refine V_iconst (pc := 51) dX4_addTravel_51 ?_
      refine V_iadd (pc := 52) dX4_addTravel_52 ?_
      refine V_puti (pc := 53) dX4_addTravel_53 fX4_49 (LandAt_k ho) ?_
      refine V_vret (x := 0) hX dX4_addTravel_56 rfl ?_
      exact ⟨rfl, rfl⟩


/-- the class's numbers in their bounds -/
def CI (μ : Mem) : Prop := LOK μ 32 ∧ POK μ 80 ∧ (∀ p t, gArm μ 32 p t ≤ 5) ∧ (∀ p t, -1 ≤ gArm μ 32 p t) ∧ (∀ r, 0 ≤ gLn μ 32 r ∧ gLn μ 32 r ≤ 99) ∧ SOK μ ∧ BOK μ ∧ TOK μ ∧ (0 ≤ μ 176 0 ∧ μ 176 0 < 2147483648) ∧ (μ 192 2 = 0 ∨ μ 192 2 = 1) ∧ (μ 224 2 = 0 ∨ μ 224 2 = 1)
theorem bc_raw : ∀ n : Nat, n < 512 → (fun x : Int => iand (let a := x - iand (iushr x 1) 1431655765; let b := iand a 858993459 + iand (iushr a 2) 858993459; let c := iand (b + iushr b 4) 252645135; let d := c + iushr c 8; d + iushr d 16) 63) (n : Int) = bitsF (n : Int) := by decide +kernel

theorem POK_turn {μ : Mem} {o j : Nat} {v : Int} (h : POK μ o) (hv : 0 ≤ v ∧ v ≤ 4) : POK (mu μ (o + 2) j v) o := by
  obtain ⟨a, b, c⟩ := h
  refine ⟨fun p => ?_, fun p => ?_, fun p => ?_⟩
  · by_cases hp : p = j
    · subst hp; rw [mu_h]; exact hv
    · rw [mu_j hp]; exact a p
  · rw [mu_c (by omega)]; exact b p
  · rw [mu_c (by omega)]; exact c p

set_option maxRecDepth 20000 in
theorem s_bitCount {μ : Mem} {x : Int} (hx : 0 ≤ x ∧ x < 512) : SP mJ6_bitCount_0f7a4 [vi x] μ (fun w m => w = vi (bitsF x) ∧ m = μ) := by
  refine SP_intro (ls := [vi x]) (by decide +kernel) rfl rfl (Nat.le_of_ble_eq_true rfl) rfl (fun X hX => ?_)
  refine V_iloadn (pc := 0) dJ6_bitCount_0f7a4_0 rfl ?_
  refine V_iloadn (pc := 1) dJ6_bitCount_0f7a4_1 rfl ?_
  refine V_iconst (pc := 2) dJ6_bitCount_0f7a4_2 ?_
  refine V_iushr (pc := 3) dJ6_bitCount_0f7a4_3 ?_
  refine V_ldcw (pc := 4) (n := 1431655765) dJ6_bitCount_0f7a4_4 nJ6_265 (by decide) ?_
  refine V_iand (pc := 7) dJ6_bitCount_0f7a4_7 ?_
  refine V_isub (pc := 8) dJ6_bitCount_0f7a4_8 ?_
  refine V_istore_0 (pc := 9) dJ6_bitCount_0f7a4_9 (by decide) ?_
  refine V_iloadn (pc := 10) dJ6_bitCount_0f7a4_10 rfl ?_
  refine V_ldcw (pc := 11) (n := 858993459) dJ6_bitCount_0f7a4_11 nJ6_266 (by decide) ?_
  refine V_iand (pc := 14) dJ6_bitCount_0f7a4_14 ?_
  refine V_iloadn (pc := 15) dJ6_bitCount_0f7a4_15 rfl ?_
  refine V_iconst (pc := 16) dJ6_bitCount_0f7a4_16 ?_
  refine V_iushr (pc := 17) dJ6_bitCount_0f7a4_17 ?_
  refine V_ldcw (pc := 18) (n := 858993459) dJ6_bitCount_0f7a4_18 nJ6_266 (by decide) ?_
  refine V_iand (pc := 21) dJ6_bitCount_0f7a4_21 ?_
  refine V_iadd (pc := 22) dJ6_bitCount_0f7a4_22 ?_
  refine V_istore_0 (pc := 23) dJ6_bitCount_0f7a4_23 (by decide) ?_
  refine V_iloadn (pc := 24) dJ6_bitCount_0f7a4_24 rfl ?_
  refine V_iloadn (pc := 25) dJ6_bitCount_0f7a4_25 rfl ?_
  refine V_iconst (pc := 26) dJ6_bitCount_0f7a4_26 ?_
  refine V_iushr (pc := 27) dJ6_bitCount_0f7a4_27 ?_
  refine V_iadd (pc := 28) dJ6_bitCount_0f7a4_28 ?_
  refine V_ldcw (pc := 29) (n := 252645135) dJ6_bitCount_0f7a4_29 nJ6_267 (by decide) ?_
  refine V_iand (pc := 32) dJ6_bitCount_0f7a4_32 ?_
  refine V_istore_0 (pc := 33) dJ6_bitCount_0f7a4_33 (by decide) ?_
  refine V_iloadn (pc := 34) dJ6_bitCount_0f7a4_34 rfl ?_
  refine V_iloadn (pc := 35) dJ6_bitCount_0f7a4_35 rfl ?_
  refine V_bipush (pc := 36) dJ6_bitCount_0f7a4_36 (by decide +kernel) ?_
  refine V_iushr (pc := 38) dJ6_bitCount_0f7a4_38 ?_
  refine V_iadd (pc := 39) dJ6_bitCount_0f7a4_39 ?_
  refine V_istore_0 (pc := 40) dJ6_bitCount_0f7a4_40 (by decide) ?_
  refine V_iloadn (pc := 41) dJ6_bitCount_0f7a4_41 rfl ?_
  refine V_iloadn (pc := 42) dJ6_bitCount_0f7a4_42 rfl ?_
  refine V_bipush (pc := 43) dJ6_bitCount_0f7a4_43 (by decide +kernel) ?_
  refine V_iushr (pc := 45) dJ6_bitCount_0f7a4_45 ?_
  refine V_iadd (pc := 46) dJ6_bitCount_0f7a4_46 ?_
  refine V_istore_0 (pc := 47) dJ6_bitCount_0f7a4_47 (by decide) ?_
  refine V_iloadn (pc := 48) dJ6_bitCount_0f7a4_48 rfl ?_
  refine V_bipush (pc := 49) dJ6_bitCount_0f7a4_49 (by decide +kernel) ?_
  refine V_iand (pc := 51) dJ6_bitCount_0f7a4_51 ?_
  refine V_iret hX dJ6_bitCount_0f7a4_52 rfl ?_
  obtain ⟨n, rfl⟩ := Int.eq_ofNat_of_zero_le hx.1
  exact ⟨congrArg vi (bc_raw n (by omega)), rfl⟩

def cRoad (μ : Mem) (r w : Int) : Int := if 0 ≤ r ∧ r < μ 32 1 then (if w = 0 then gOne μ 32 r else if w = 1 then gTwo μ 32 r else if w = 2 then gLn μ 32 r else -1000000002) else -1000000001
def cFar (μ : Mem) (a b : Int) : Int := if (0 ≤ a ∧ a < μ 32 0) ∧ (0 ≤ b ∧ b < μ 32 0) then gFar μ 32 a b else -1000000001
def cPost (μ : Mem) (p w : Int) : Int := if 0 ≤ p ∧ p < μ 32 0 then (if w = 0 then gSd μ 32 p else if w = 1 then pT μ 80 p else if w = 2 then pF μ 80 p else -1000000002) else -1000000001
def cArm (μ : Mem) (p i w : Int) : Int := if 0 ≤ p ∧ p < μ 32 0 then (if gS μ 32 p i then (if w = 0 then sb (fun t => gArm μ 32 p t = i) (μ 32 0).toNat 0 0 else if w = 1 then gRd μ 32 p (sA μ p i (pT μ 80 p)) else if w = 2 then gRd μ 32 p i else -1000000002) else -1000000002) else -1000000001
def cMiles (μ : Mem) (p t : Int) : Int := if (0 ≤ p ∧ p < μ 32 0) ∧ (0 ≤ t ∧ t < μ 32 0) then mT μ 80 p t else -1000000001

set_option maxRecDepth 20000 in
theorem t_road {μ : Mem} (hC : CI μ) {r u : Int} (hr : inR r) (hw : inR u) : SP mX11_road [vr 0, vi r, vi u] μ (fun w m => w = vi (cRoad μ r u) ∧ m = μ) := by
  refine SP_intro (ls := [vr 0, vi r, vi u]) (by decide +kernel) rfl rfl (Nat.le_of_ble_eq_true rfl) rfl (fun X hX => ?_)
  obtain ⟨hL, hO, hA, hA0, hln, hS, hB, hT, hsd, hi1, hi2⟩ := id hC
  obtain ⟨hL0, hL1, hL2, hL3, hL4⟩ := id hL
  refine V_aloadn (pc := 0) dX11_road_0 rfl ?_
  refine V_getr (pc := 1) dX11_road_1 fX11_19 zk_0 zr_0_1 ?_
  refine V_iloadn (pc := 4) dX11_road_4 rfl ?_
  refine V_cv1 (pc := 5) dX11_road_5 kX11_157 zk_32 (by decide) (Nat.le_of_ble_eq_true rfl) (s_hasRoad LandAt_32 hL hr) rfl ?_
  refine V_ifne_b (pc := 8) (tgt := 14) dX11_road_8 (by decide) (fun h8 => ?_) (fun h8 => ?_)
  · refine V_iloadn (pc := 14) dX11_road_14 rfl ?_
    by_cases hs0 : u = 0
    · refine V_tabIn (pc := 15) (off := 25) (tgt := 40) dX11_road_15 (by omega) (by omega) (by omega) (by rw [hs0]; decide) (by decide) ?_
      refine V_aloadn (pc := 40) dX11_road_40 rfl ?_
      refine V_getr (pc := 41) dX11_road_41 fX11_19 zk_0 zr_0_1 ?_
      refine V_iloadn (pc := 44) dX11_road_44 rfl ?_
      refine V_cv1 (pc := 45) dX11_road_45 kX11_161 zk_32 (by decide) (Nat.le_of_ble_eq_true rfl) (s_roadStart LandAt_32 hL hr) rfl ?_
      refine V_iret hX dX11_road_48 rfl ?_
      exact ⟨congrArg vi (by unfold cRoad; first | (exfalso; omega) | (repeat (first | rw [if_pos (by omega)] | rw [if_neg (by omega)]))), rfl⟩
    by_cases hs1 : u = 1
    · refine V_tabIn (pc := 15) (off := 34) (tgt := 49) dX11_road_15 (by omega) (by omega) (by omega) (by rw [hs1]; decide) (by decide) ?_
      refine V_aloadn (pc := 49) dX11_road_49 rfl ?_
      refine V_getr (pc := 50) dX11_road_50 fX11_19 zk_0 zr_0_1 ?_
      refine V_iloadn (pc := 53) dX11_road_53 rfl ?_
      refine V_cv1 (pc := 54) dX11_road_54 kX11_164 zk_32 (by decide) (Nat.le_of_ble_eq_true rfl) (s_roadEnd LandAt_32 hL hr) rfl ?_
      refine V_iret hX dX11_road_57 rfl ?_
      exact ⟨congrArg vi (by unfold cRoad; first | (exfalso; omega) | (repeat (first | rw [if_pos (by omega)] | rw [if_neg (by omega)]))), rfl⟩
    by_cases hs2 : u = 2
    · refine V_tabIn (pc := 15) (off := 43) (tgt := 58) dX11_road_15 (by omega) (by omega) (by omega) (by rw [hs2]; decide) (by decide) ?_
      refine V_aloadn (pc := 58) dX11_road_58 rfl ?_
      refine V_getr (pc := 59) dX11_road_59 fX11_19 zk_0 zr_0_1 ?_
      refine V_iloadn (pc := 62) dX11_road_62 rfl ?_
      refine V_cv1 (pc := 63) dX11_road_63 kX11_167 zk_32 (by decide) (Nat.le_of_ble_eq_true rfl) (s_roadMiles LandAt_32 hL hr) rfl ?_
      refine V_iret hX dX11_road_66 rfl ?_
      exact ⟨congrArg vi (by unfold cRoad; first | (exfalso; omega) | (repeat (first | rw [if_pos (by omega)] | rw [if_neg (by omega)]))), rfl⟩
    refine V_tabOut (pc := 15) (tgt := 67) dX11_road_15 (by omega) (by omega) (by decide) ?_
    refine V_ldc (pc := 67) (n := -1000000002) dX11_road_67 nX11_100 (by decide) ?_
    refine V_iret hX dX11_road_69 rfl ?_
    exact ⟨congrArg vi (by unfold cRoad; first | (exfalso; omega) | (repeat (first | rw [if_pos (by omega)] | rw [if_neg (by omega)]))), rfl⟩
  · refine V_ldc (pc := 11) (n := -1000000001) dX11_road_11 nX11_160 (by decide) ?_
    refine V_iret hX dX11_road_13 rfl ?_
    exact ⟨congrArg vi (by unfold cRoad; first | (exfalso; omega) | (repeat (first | rw [if_pos (by omega)] | rw [if_neg (by omega)]))), rfl⟩

set_option maxRecDepth 20000 in
theorem t_far {μ : Mem} (hC : CI μ) {a b : Int} (ha : inR a) (hb : inR b) : SP mX11_far [vr 0, vi a, vi b] μ (fun w m => w = vi (cFar μ a b) ∧ m = μ) := by
  refine SP_intro (ls := [vr 0, vi a, vi b]) (by decide +kernel) rfl rfl (Nat.le_of_ble_eq_true rfl) rfl (fun X hX => ?_)
  obtain ⟨hL, hO, hA, hA0, hln, hS, hB, hT, hsd, hi1, hi2⟩ := id hC
  obtain ⟨hL0, hL1, hL2, hL3, hL4⟩ := id hL
  refine V_aloadn (pc := 0) dX11_far_0 rfl ?_
  refine V_getr (pc := 1) dX11_far_1 fX11_19 zk_0 zr_0_1 ?_
  refine V_iloadn (pc := 4) dX11_far_4 rfl ?_
  refine V_cv1 (pc := 5) dX11_far_5 kX11_170 zk_32 (by decide) (Nat.le_of_ble_eq_true rfl) (s_hasPlace LandAt_32 hL (by omega)) rfl ?_
  refine V_ifeq_b (pc := 8) (tgt := 22) dX11_far_8 (by decide) (fun h8 => ?_) (fun h8 => ?_)
  · refine V_ldc (pc := 22) (n := -1000000001) dX11_far_22 nX11_160 (by decide) ?_
    refine V_iret hX dX11_far_24 rfl ?_
    exact ⟨congrArg vi (by unfold cFar; first | (exfalso; omega) | (repeat (first | rw [if_pos (by omega)] | rw [if_neg (by omega)]))), rfl⟩
  · refine V_aloadn (pc := 11) dX11_far_11 rfl ?_
    refine V_getr (pc := 12) dX11_far_12 fX11_19 zk_0 zr_0_1 ?_
    refine V_iloadn (pc := 15) dX11_far_15 rfl ?_
    refine V_cv1 (pc := 16) dX11_far_16 kX11_170 zk_32 (by decide) (Nat.le_of_ble_eq_true rfl) (s_hasPlace LandAt_32 hL (by omega)) rfl ?_
    refine V_ifne_b (pc := 19) (tgt := 25) dX11_far_19 (by decide) (fun h19 => ?_) (fun h19 => ?_)
    · refine V_aloadn (pc := 25) dX11_far_25 rfl ?_
      refine V_getr (pc := 26) dX11_far_26 fX11_19 zk_0 zr_0_1 ?_
      refine V_iloadn (pc := 29) dX11_far_29 rfl ?_
      refine V_iloadn (pc := 30) dX11_far_30 rfl ?_
      refine V_cv2 (pc := 31) dX11_far_31 kX11_173 zk_32 (by decide) (Nat.le_of_ble_eq_true rfl) (s_fewestMiles LandAt_32 hL ha hb) rfl ?_
      refine V_iret hX dX11_far_34 rfl ?_
      exact ⟨congrArg vi (by unfold cFar; first | (exfalso; omega) | (repeat (first | rw [if_pos (by omega)] | rw [if_neg (by omega)]))), rfl⟩
    · refine V_ldc (pc := 22) (n := -1000000001) dX11_far_22 nX11_160 (by decide) ?_
      refine V_iret hX dX11_far_24 rfl ?_
      exact ⟨congrArg vi (by unfold cFar; first | (exfalso; omega) | (repeat (first | rw [if_pos (by omega)] | rw [if_neg (by omega)]))), rfl⟩

set_option maxRecDepth 20000 in
theorem t_post {μ : Mem} (hC : CI μ) {p u : Int} (hp : inR p) (hw : inR u) : SP mX11_post [vr 0, vi p, vi u] μ (fun w m => w = vi (cPost μ p u) ∧ m = μ) := by
  refine SP_intro (ls := [vr 0, vi p, vi u]) (by decide +kernel) rfl rfl (Nat.le_of_ble_eq_true rfl) rfl (fun X hX => ?_)
  obtain ⟨hL, hO, hA, hA0, hln, hS, hB, hT, hsd, hi1, hi2⟩ := id hC
  obtain ⟨hL0, hL1, hL2, hL3, hL4⟩ := id hL
  refine V_aloadn (pc := 0) dX11_post_0 rfl ?_
  refine V_getr (pc := 1) dX11_post_1 fX11_19 zk_0 zr_0_1 ?_
  refine V_iloadn (pc := 4) dX11_post_4 rfl ?_
  refine V_cv1 (pc := 5) dX11_post_5 kX11_170 zk_32 (by decide) (Nat.le_of_ble_eq_true rfl) (s_hasPlace LandAt_32 hL (by omega)) rfl ?_
  refine V_ifne_b (pc := 8) (tgt := 14) dX11_post_8 (by decide) (fun h8 => ?_) (fun h8 => ?_)
  · refine V_iloadn (pc := 14) dX11_post_14 rfl ?_
    by_cases hs0 : u = 0
    · refine V_tabIn (pc := 15) (off := 25) (tgt := 40) dX11_post_15 (by omega) (by omega) (by omega) (by rw [hs0]; decide) (by decide) ?_
      refine V_aloadn (pc := 40) dX11_post_40 rfl ?_
      refine V_getr (pc := 41) dX11_post_41 fX11_19 zk_0 zr_0_1 ?_
      refine V_iloadn (pc := 44) dX11_post_44 rfl ?_
      refine V_cv1 (pc := 45) dX11_post_45 kX11_177 zk_32 (by decide) (Nat.le_of_ble_eq_true rfl) (s_sidesOf LandAt_32 hL hp) rfl ?_
      refine V_iret hX dX11_post_48 rfl ?_
      exact ⟨congrArg vi (by unfold cPost; first | (exfalso; omega) | (repeat (first | rw [if_pos (by omega)] | rw [if_neg (by omega)]))), rfl⟩
    by_cases hs1 : u = 1
    · refine V_tabIn (pc := 15) (off := 34) (tgt := 49) dX11_post_15 (by omega) (by omega) (by omega) (by rw [hs1]; decide) (by decide) ?_
      refine V_aloadn (pc := 49) dX11_post_49 rfl ?_
      refine V_getr (pc := 50) dX11_post_50 fX11_40 zk_0 zr_0_4 ?_
      refine V_iloadn (pc := 53) dX11_post_53 rfl ?_
      refine V_cv1 (pc := 54) dX11_post_54 kX11_180 zk_80 (by decide) (Nat.le_of_ble_eq_true rfl) (s_turnOf PostsAt_80 hL hO hp) rfl ?_
      refine V_iret hX dX11_post_57 rfl ?_
      exact ⟨congrArg vi (by unfold cPost; first | (exfalso; omega) | (repeat (first | rw [if_pos (by omega)] | rw [if_neg (by omega)]))), rfl⟩
    by_cases hs2 : u = 2
    · refine V_tabIn (pc := 15) (off := 43) (tgt := 58) dX11_post_15 (by omega) (by omega) (by omega) (by rw [hs2]; decide) (by decide) ?_
      refine V_aloadn (pc := 58) dX11_post_58 rfl ?_
      refine V_getr (pc := 59) dX11_post_59 fX11_40 zk_0 zr_0_4 ?_
      refine V_iloadn (pc := 62) dX11_post_62 rfl ?_
      refine V_cv1 (pc := 63) dX11_post_63 kX11_183 zk_80 (by decide) (Nat.le_of_ble_eq_true rfl) (s_fallenSet PostsAt_80 hL hO hp) rfl ?_
      refine V_iret hX dX11_post_66 rfl ?_
      exact ⟨congrArg vi (by unfold cPost; first | (exfalso; omega) | (repeat (first | rw [if_pos (by omega)] | rw [if_neg (by omega)]))), rfl⟩
    refine V_tabOut (pc := 15) (tgt := 67) dX11_post_15 (by omega) (by omega) (by decide) ?_
    refine V_ldc (pc := 67) (n := -1000000002) dX11_post_67 nX11_100 (by decide) ?_
    refine V_iret hX dX11_post_69 rfl ?_
    exact ⟨congrArg vi (by unfold cPost; first | (exfalso; omega) | (repeat (first | rw [if_pos (by omega)] | rw [if_neg (by omega)]))), rfl⟩
  · refine V_ldc (pc := 11) (n := -1000000001) dX11_post_11 nX11_160 (by decide) ?_
    refine V_iret hX dX11_post_13 rfl ?_
    exact ⟨congrArg vi (by unfold cPost; first | (exfalso; omega) | (repeat (first | rw [if_pos (by omega)] | rw [if_neg (by omega)]))), rfl⟩

set_option maxRecDepth 20000 in
theorem t_arm {μ : Mem} (hC : CI μ) {p i u : Int} (hp : inR p) (hi : inR i) (hw : inR u) : SP mX11_arm [vr 0, vi p, vi i, vi u] μ (fun w m => w = vi (cArm μ p i u) ∧ m = μ) := by
  refine SP_intro (ls := [vr 0, vi p, vi i, vi u]) (by decide +kernel) rfl rfl (Nat.le_of_ble_eq_true rfl) rfl (fun X hX => ?_)
  obtain ⟨hL, hO, hA, hA0, hln, hS, hB, hT, hsd, hi1, hi2⟩ := id hC
  obtain ⟨hL0, hL1, hL2, hL3, hL4⟩ := id hL
  have hs := hL3 p.toNat
  have g1 := pT_rg hO p
  have g2 := sA_rg hL p i (pT μ 80 p)
  refine V_aloadn (pc := 0) dX11_arm_0 rfl ?_
  refine V_getr (pc := 1) dX11_arm_1 fX11_19 zk_0 zr_0_1 ?_
  refine V_iloadn (pc := 4) dX11_arm_4 rfl ?_
  refine V_cv1 (pc := 5) dX11_arm_5 kX11_170 zk_32 (by decide) (Nat.le_of_ble_eq_true rfl) (s_hasPlace LandAt_32 hL (by omega)) rfl ?_
  refine V_ifne_b (pc := 8) (tgt := 14) dX11_arm_8 (by decide) (fun h8 => ?_) (fun h8 => ?_)
  · refine V_aloadn (pc := 14) dX11_arm_14 rfl ?_
    refine V_getr (pc := 15) dX11_arm_15 fX11_19 zk_0 zr_0_1 ?_
    refine V_iloadn (pc := 18) dX11_arm_18 rfl ?_
    refine V_iloadn (pc := 19) dX11_arm_19 rfl ?_
    refine V_cv2 (pc := 20) dX11_arm_20 kX11_186 zk_32 (by decide) (Nat.le_of_ble_eq_true rfl) (s_hasSide LandAt_32 hL hp hi) rfl ?_
    refine V_ifne_b (pc := 23) (tgt := 29) dX11_arm_23 (by decide) (fun h23 => ?_) (fun h23 => ?_)
    · refine V_iloadn (pc := 29) dX11_arm_29 rfl ?_
      by_cases hs0 : u = 0
      · refine V_tabIn (pc := 30) (off := 26) (tgt := 56) dX11_arm_30 (by omega) (by omega) (by omega) (by rw [hs0]; decide) (by decide) ?_
        refine V_aloadn (pc := 56) dX11_arm_56 rfl ?_
        refine V_getr (pc := 57) dX11_arm_57 fX11_19 zk_0 zr_0_1 ?_
        refine V_iloadn (pc := 60) dX11_arm_60 rfl ?_
        refine V_iloadn (pc := 61) dX11_arm_61 rfl ?_
        refine V_cv2 (pc := 62) dX11_arm_62 kX11_190 zk_32 (by decide) (Nat.le_of_ble_eq_true rfl) (s_placesByArm LandAt_32 hL hp hi) rfl ?_
        refine V_iret hX dX11_arm_65 rfl ?_
        exact ⟨congrArg vi (by unfold cArm; first | (exfalso; omega) | (repeat (first | rw [if_pos (by omega)] | rw [if_neg (by omega)]))), rfl⟩
      by_cases hs1 : u = 1
      · refine V_tabIn (pc := 30) (off := 36) (tgt := 66) dX11_arm_30 (by omega) (by omega) (by omega) (by rw [hs1]; decide) (by decide) ?_
        refine V_aloadn (pc := 66) dX11_arm_66 rfl ?_
        refine V_getr (pc := 67) dX11_arm_67 fX11_19 zk_0 zr_0_1 ?_
        refine V_iloadn (pc := 70) dX11_arm_70 rfl ?_
        refine V_aloadn (pc := 71) dX11_arm_71 rfl ?_
        refine V_getr (pc := 72) dX11_arm_72 fX11_40 zk_0 zr_0_4 ?_
        refine V_iloadn (pc := 75) dX11_arm_75 rfl ?_
        refine V_iloadn (pc := 76) dX11_arm_76 rfl ?_
        refine V_aloadn (pc := 77) dX11_arm_77 rfl ?_
        refine V_getr (pc := 78) dX11_arm_78 fX11_40 zk_0 zr_0_4 ?_
        refine V_iloadn (pc := 81) dX11_arm_81 rfl ?_
        refine V_cv1 (pc := 82) dX11_arm_82 kX11_180 zk_80 (by decide) (Nat.le_of_ble_eq_true rfl) (s_turnOf PostsAt_80 hL hO hp) rfl ?_
        refine V_cv3 (pc := 85) dX11_arm_85 kX11_193 zk_80 (by decide) (Nat.le_of_ble_eq_true rfl) (s_sideOfArm PostsAt_80 hL hO hp (by omega)) rfl ?_
        refine V_cv2 (pc := 88) dX11_arm_88 kX11_197 zk_32 (by decide) (Nat.le_of_ble_eq_true rfl) (s_roadAtSide LandAt_32 hL hp (by omega)) rfl ?_
        refine V_iret hX dX11_arm_91 rfl ?_
        exact ⟨congrArg vi (by unfold cArm; first | (exfalso; omega) | (repeat (first | rw [if_pos (by omega)] | rw [if_neg (by omega)]))), rfl⟩
      by_cases hs2 : u = 2
      · refine V_tabIn (pc := 30) (off := 62) (tgt := 92) dX11_arm_30 (by omega) (by omega) (by omega) (by rw [hs2]; decide) (by decide) ?_
        refine V_aloadn (pc := 92) dX11_arm_92 rfl ?_
        refine V_getr (pc := 93) dX11_arm_93 fX11_19 zk_0 zr_0_1 ?_
        refine V_iloadn (pc := 96) dX11_arm_96 rfl ?_
        refine V_iloadn (pc := 97) dX11_arm_97 rfl ?_
        refine V_cv2 (pc := 98) dX11_arm_98 kX11_197 zk_32 (by decide) (Nat.le_of_ble_eq_true rfl) (s_roadAtSide LandAt_32 hL hp (by omega)) rfl ?_
        refine V_iret hX dX11_arm_101 rfl ?_
        exact ⟨congrArg vi (by unfold cArm; first | (exfalso; omega) | (repeat (first | rw [if_pos (by omega)] | rw [if_neg (by omega)]))), rfl⟩
      refine V_tabOut (pc := 30) (tgt := 102) dX11_arm_30 (by omega) (by omega) (by decide) ?_
      refine V_ldc (pc := 102) (n := -1000000002) dX11_arm_102 nX11_100 (by decide) ?_
      refine V_iret hX dX11_arm_104 rfl ?_
      exact ⟨congrArg vi (by unfold cArm; first | (exfalso; omega) | (repeat (first | rw [if_pos (by omega)] | rw [if_neg (by omega)]))), rfl⟩
    · refine V_ldc (pc := 26) (n := -1000000002) dX11_arm_26 nX11_100 (by decide) ?_
      refine V_iret hX dX11_arm_28 rfl ?_
      exact ⟨congrArg vi (by unfold cArm; first | (exfalso; omega) | (repeat (first | rw [if_pos (by omega)] | rw [if_neg (by omega)]))), rfl⟩
  · refine V_ldc (pc := 11) (n := -1000000001) dX11_arm_11 nX11_160 (by decide) ?_
    refine V_iret hX dX11_arm_13 rfl ?_
    exact ⟨congrArg vi (by unfold cArm; first | (exfalso; omega) | (repeat (first | rw [if_pos (by omega)] | rw [if_neg (by omega)]))), rfl⟩

set_option maxRecDepth 20000 in
theorem t_miles {μ : Mem} (hC : CI μ) {p t : Int} (hp : inR p) (ht : inR t) : SP mX11_miles [vr 0, vi p, vi t] μ (fun w m => w = vi (cMiles μ p t) ∧ m = μ) := by
  refine SP_intro (ls := [vr 0, vi p, vi t]) (by decide +kernel) rfl rfl (Nat.le_of_ble_eq_true rfl) rfl (fun X hX => ?_)
  obtain ⟨hL, hO, hA, hA0, hln, hS, hB, hT, hsd, hi1, hi2⟩ := id hC
  obtain ⟨hL0, hL1, hL2, hL3, hL4⟩ := id hL
  refine V_aloadn (pc := 0) dX11_miles_0 rfl ?_
  refine V_getr (pc := 1) dX11_miles_1 fX11_19 zk_0 zr_0_1 ?_
  refine V_iloadn (pc := 4) dX11_miles_4 rfl ?_
  refine V_cv1 (pc := 5) dX11_miles_5 kX11_170 zk_32 (by decide) (Nat.le_of_ble_eq_true rfl) (s_hasPlace LandAt_32 hL (by omega)) rfl ?_
  refine V_ifeq_b (pc := 8) (tgt := 22) dX11_miles_8 (by decide) (fun h8 => ?_) (fun h8 => ?_)
  · refine V_ldc (pc := 22) (n := -1000000001) dX11_miles_22 nX11_160 (by decide) ?_
    refine V_iret hX dX11_miles_24 rfl ?_
    exact ⟨congrArg vi (by unfold cMiles; first | (exfalso; omega) | (repeat (first | rw [if_pos (by omega)] | rw [if_neg (by omega)]))), rfl⟩
  · refine V_aloadn (pc := 11) dX11_miles_11 rfl ?_
    refine V_getr (pc := 12) dX11_miles_12 fX11_19 zk_0 zr_0_1 ?_
    refine V_iloadn (pc := 15) dX11_miles_15 rfl ?_
    refine V_cv1 (pc := 16) dX11_miles_16 kX11_170 zk_32 (by decide) (Nat.le_of_ble_eq_true rfl) (s_hasPlace LandAt_32 hL (by omega)) rfl ?_
    refine V_ifne_b (pc := 19) (tgt := 25) dX11_miles_19 (by decide) (fun h19 => ?_) (fun h19 => ?_)
    · refine V_aloadn (pc := 25) dX11_miles_25 rfl ?_
      refine V_getr (pc := 26) dX11_miles_26 fX11_40 zk_0 zr_0_4 ?_
      refine V_iloadn (pc := 29) dX11_miles_29 rfl ?_
      refine V_iloadn (pc := 30) dX11_miles_30 rfl ?_
      refine V_cv2 (pc := 31) dX11_miles_31 kX11_200 zk_80 (by decide) (Nat.le_of_ble_eq_true rfl) (s_milesTold PostsAt_80 hL hO hp ht) rfl ?_
      refine V_iret hX dX11_miles_34 rfl ?_
      exact ⟨congrArg vi (by unfold cMiles; first | (exfalso; omega) | (repeat (first | rw [if_pos (by omega)] | rw [if_neg (by omega)]))), rfl⟩
    · refine V_ldc (pc := 22) (n := -1000000001) dX11_miles_22 nX11_160 (by decide) ?_
      refine V_iret hX dX11_miles_24 rfl ?_
      exact ⟨congrArg vi (by unfold cMiles; first | (exfalso; omega) | (repeat (first | rw [if_pos (by omega)] | rw [if_neg (by omega)]))), rfl⟩

def cTurn (μ : Mem) (p k : Int) : Int × Mem := if 0 ≤ p ∧ p < μ 32 0 then (if 1 ≤ k ∧ k ≤ 99 then (if gSd μ 32 p = 0 then (-1000000003, μ) else ((μ (80 + 2) p.toNat + k) % gSd μ 32 p, mu μ (80 + 2) p.toNat ((μ (80 + 2) p.toNat + k) % gSd μ 32 p))) else (-1000000002, μ)) else (-1000000001, μ)
def cFell (μ : Mem) (p i b : Int) : Int × Mem := if 0 ≤ p ∧ p < μ 32 0 then (if gS μ 32 p i then (bi (Fl μ 80 p i), mu μ (80 + 3) p.toNat (if b = 0 then iand (μ (80 + 3) p.toNat) (ixor (ishl 1 i) (-1)) else iorr (μ (80 + 3) p.toNat) (ishl 1 i))) else (-1000000002, μ)) else (-1000000001, μ)
def cPaint (μ : Mem) (p t k : Int) : Int × Mem := if (0 ≤ p ∧ p < μ 32 0) ∧ (0 ≤ t ∧ t < μ 32 0) then (if 0 ≤ k ∧ k ≤ 999 then (if mT μ 80 p t = -1 then (-1000000003, μ) else (mT μ 80 p t, mu μ (80 + 4) (p * 9 + t).toNat k)) else (-1000000002, μ)) else (-1000000001, μ)
def cSeen (μ : Mem) (p t q : Int) : Int × Mem := if (0 ≤ p ∧ p < μ 32 0) ∧ (0 ≤ t ∧ t < μ 32 0) ∧ (0 ≤ q ∧ q < μ 32 0) then (if sTw μ 32 p q (gSd μ 32 p).toNat 0 = -1 ∨ gArm μ 32 p t = -1 then (-1000000002, μ) else if 40 ≤ μ 144 4 then (-1000000004, μ) else (μ 144 4 + 1, mu (mu (mu (mu μ 146 (μ 144 4).toNat p) 147 (μ 144 4).toNat t) 148 (μ 144 4).toNat q) 144 4 (μ 144 4 + 1))) else (-1000000001, μ)
def cWrite (μ : Mem) (a t e f : Int) : Int × Mem := if (0 ≤ a ∧ a < μ 32 0) ∧ (0 ≤ t ∧ t < μ 32 0) then (if (1 ≤ e ∧ e ≤ 3) ∧ 0 ≤ f ∧ f ≤ 9999 then (if 20 ≤ μ 160 4 then (-1000000004, μ) else (μ 160 4 + 1, mu (mu (mu (mu (mu μ 161 (μ 160 4).toNat a) 162 (μ 160 4).toNat t) 163 (μ 160 4).toNat e) 164 (μ 160 4).toNat f) 160 4 (μ 160 4 + 1))) else (-1000000002, μ)) else (-1000000001, μ)
def cSeed (μ : Mem) (v : Int) : Int × Mem := if v < 0 then (-1000000002, μ) else (μ 176 0, mu μ 176 0 v)
def cKeep (μ : Mem) (i : Int) : Int × Mem := if i = 0 then (1, mu (mu (bcm μ 208 80) 192 1 (μ 176 0)) 192 2 1) else if i = 1 then (1, mu (mu (bcm μ 240 80) 224 1 (μ 176 0)) 224 2 1) else (-1000000001, μ)
def cBack (μ : Mem) (i : Int) : Int × Mem := if i = 0 then (if μ 192 2 = 0 then (-1000000003, μ) else (1, mu (bcm μ 80 208) 176 0 (μ 192 1))) else if i = 1 then (if μ 224 2 = 0 then (-1000000003, μ) else (1, mu (bcm μ 80 240) 176 0 (μ 224 1))) else (-1000000001, μ)
def cOdds (μ : Mem) (a t o : Int) : Int × Mem := if (0 ≤ a ∧ a < μ 32 0) ∧ (0 ≤ t ∧ t < μ 32 0) then (if 0 ≤ o ∧ o ≤ 100 then (l2i (shT μ t o 10 a 0 1000000000 0), mu (mu μ 128 2 t) 128 3 o) else (-1000000002, μ)) else (-1000000001, μ)
def cWalk (μ : Mem) (a t u : Int) : Int := if (0 ≤ a ∧ a < μ 32 0) ∧ (0 ≤ t ∧ t < μ 32 0) then (if u = 0 then (wkF μ a t 0).1 else if u = 1 then (wkF μ a t 0).2.1 else if u = 2 then (a :: (wkF μ a t 0).2.2).getD (wkF μ a t 0).2.2.length 0 else -1000000002) else -1000000001
def cWay (μ : Mem) (a t i : Int) : Int := if (0 ≤ a ∧ a < μ 32 0) ∧ (0 ≤ t ∧ t < μ 32 0) then (if 0 ≤ i ∧ i ≤ (wkF μ a t 0).2.2.length then (a :: (wkF μ a t 0).2.2).getD i.toNat 0 else -1) else -1000000001
def cFits (μ : Mem) (p : Int) : Int := if 0 ≤ p ∧ p < μ 32 0 then fitT μ p else -1000000001
theorem WI.way {μ ν : Mem} {a ms : Int} {pre : List Int} {e : Int} (h : WI μ ν a ms pre e) (i : Int) : gWay ν i = if 0 ≤ i ∧ i ≤ pre.length then (a :: pre).getD i.toNat 0 else -1 := by
  obtain ⟨h1, h2, h3, h4, h5, h6⟩ := h
  unfold gWay
  rw [h4]
  by_cases c : 0 ≤ i ∧ i ≤ (pre.length : Int)
  · rw [if_pos c, if_pos c]
    cases hn : i.toNat with
    | zero => simpa using h5
    | succ j =>
      rw [h6 j (by omega)]
      simp [List.getD_eq_getElem?_getD]
  · rw [if_neg c, if_neg c]

set_option maxRecDepth 20000 in
theorem t_turn {μ : Mem} (hC : CI μ) {p k : Int} (hp : inR p) (hk : inR k) : SP mX11_turn [vr 0, vi p, vi k] μ (fun w m => w = vi (cTurn μ p k).1 ∧ m = (cTurn μ p k).2) := by
  refine SP_intro (ls := [vr 0, vi p, vi k]) (by decide +kernel) rfl rfl (Nat.le_of_ble_eq_true rfl) rfl (fun X hX => ?_)
  obtain ⟨hL, hO, hA, hA0, hln, hS, hB, hT, hsd, hi1, hi2⟩ := id hC
  obtain ⟨hL0, hL1, hL2, hL3, hL4⟩ := id hL
  have g1 := gSd_rg hL p
  have g2 := hO.1 p.toNat
  refine V_aloadn (pc := 0) dX11_turn_0 rfl ?_
  refine V_getr (pc := 1) dX11_turn_1 fX11_19 zk_0 zr_0_1 ?_
  refine V_iloadn (pc := 4) dX11_turn_4 rfl ?_
  refine V_cv1 (pc := 5) dX11_turn_5 kX11_170 zk_32 (by decide) (Nat.le_of_ble_eq_true rfl) (s_hasPlace LandAt_32 hL (by omega)) rfl ?_
  refine V_ifne_b (pc := 8) (tgt := 14) dX11_turn_8 (by decide) (fun h8 => ?_) (fun h8 => ?_)
  · refine V_iloadn (pc := 14) dX11_turn_14 rfl ?_
    refine V_iconst (pc := 15) dX11_turn_15 ?_
    refine V_icmp_lt (pc := 16) (tgt := 25) dX11_turn_16 (by decide) (by omega) (by decide) (fun h16 => ?_) (fun h16 => ?_)
    · refine V_ldc (pc := 25) (n := -1000000002) dX11_turn_25 nX11_100 (by decide) ?_
      refine V_iret hX dX11_turn_27 rfl ?_
      unfold cTurn
      repeat (first | rw [if_pos (by omega)] | rw [if_neg (by omega)])
      exact ⟨rfl, rfl⟩
    · refine V_iloadn (pc := 19) dX11_turn_19 rfl ?_
      refine V_bipush (pc := 20) dX11_turn_20 (by decide +kernel) ?_
      refine V_icmp_le (pc := 22) (tgt := 28) dX11_turn_22 (by decide) (by omega) (by decide) (fun h22 => ?_) (fun h22 => ?_)
      · refine V_aloadn (pc := 28) dX11_turn_28 rfl ?_
        refine V_getr (pc := 29) dX11_turn_29 fX11_19 zk_0 zr_0_1 ?_
        refine V_iloadn (pc := 32) dX11_turn_32 rfl ?_
        refine V_cv1 (pc := 33) dX11_turn_33 kX11_177 zk_32 (by decide) (Nat.le_of_ble_eq_true rfl) (s_sidesOf LandAt_32 hL hp) rfl ?_
        refine V_if_ne (pc := 36) (tgt := 42) dX11_turn_36 (by decide) (by omega) (fun h36 => ?_) (fun h36 => ?_)
        · refine V_aloadn (pc := 42) dX11_turn_42 rfl ?_
          refine V_getr (pc := 43) dX11_turn_43 fX11_40 zk_0 zr_0_4 ?_
          refine V_iloadn (pc := 46) dX11_turn_46 rfl ?_
          refine V_iloadn (pc := 47) dX11_turn_47 rfl ?_
          refine V_cu2 (pc := 48) dX11_turn_48 kX11_204 zk_80 (by decide) (Nat.le_of_ble_eq_true rfl) (s_turnFurther PostsAt_80 hL hO (by omega) (by omega) (by omega)) ?_
          refine V_aloadn (pc := 51) dX11_turn_51 rfl ?_
          refine V_getr (pc := 52) dX11_turn_52 fX11_40 zk_0 zr_0_4 ?_
          refine V_iloadn (pc := 55) dX11_turn_55 rfl ?_
          refine V_cv1 (pc := 56) dX11_turn_56 kX11_180 zk_80 (by decide) (Nat.le_of_ble_eq_true rfl) (s_turnOf PostsAt_80 (LOK_cg hL (mu_ne (by decide)) (fun k h1 h2 => mu_ne (by omega))) (POK_turn hO (by have := Int.emod_nonneg (μ (80 + 2) p.toNat + k) (show gSd μ 32 p ≠ 0 by omega); have := Int.emod_lt_of_pos (μ (80 + 2) p.toNat + k) (show 0 < gSd μ 32 p by omega); omega)) hp) rfl ?_
          unfold pT
          rw [mu_c (by decide), if_pos (by omega), mu_h]
          refine V_iret hX dX11_turn_59 rfl ?_
          unfold cTurn
          repeat (first | rw [if_pos (by omega)] | rw [if_neg (by omega)])
          exact ⟨rfl, rfl⟩
        · refine V_ldc (pc := 39) (n := -1000000003) dX11_turn_39 nX11_203 (by decide) ?_
          refine V_iret hX dX11_turn_41 rfl ?_
          unfold cTurn
          repeat (first | rw [if_pos (by omega)] | rw [if_neg (by omega)])
          exact ⟨rfl, rfl⟩
      · refine V_ldc (pc := 25) (n := -1000000002) dX11_turn_25 nX11_100 (by decide) ?_
        refine V_iret hX dX11_turn_27 rfl ?_
        unfold cTurn
        repeat (first | rw [if_pos (by omega)] | rw [if_neg (by omega)])
        exact ⟨rfl, rfl⟩
  · refine V_ldc (pc := 11) (n := -1000000001) dX11_turn_11 nX11_160 (by decide) ?_
    refine V_iret hX dX11_turn_13 rfl ?_
    unfold cTurn
    repeat (first | rw [if_pos (by omega)] | rw [if_neg (by omega)])
    exact ⟨rfl, rfl⟩

set_option maxRecDepth 20000 in
theorem t_fell {μ : Mem} (hC : CI μ) {p i b : Int} (hp : inR p) (hi : inR i) (hb : b = 0 ∨ b = 1) : SP mX11_fell [vr 0, vi p, vi i, vi b] μ (fun w m => w = vi (cFell μ p i b).1 ∧ m = (cFell μ p i b).2) := by
  refine SP_intro (ls := [vr 0, vi p, vi i, vi b, un]) (by decide +kernel) rfl rfl (Nat.le_of_ble_eq_true rfl) rfl (fun X hX => ?_)
  obtain ⟨hL, hO, hA, hA0, hln, hS, hB, hT, hsd, hi1, hi2⟩ := id hC
  obtain ⟨hL0, hL1, hL2, hL3, hL4⟩ := id hL
  have hs := hL3 p.toNat
  refine V_aloadn (pc := 0) dX11_fell_0 rfl ?_
  refine V_getr (pc := 1) dX11_fell_1 fX11_19 zk_0 zr_0_1 ?_
  refine V_iloadn (pc := 4) dX11_fell_4 rfl ?_
  refine V_cv1 (pc := 5) dX11_fell_5 kX11_170 zk_32 (by decide) (Nat.le_of_ble_eq_true rfl) (s_hasPlace LandAt_32 hL (by omega)) rfl ?_
  refine V_ifne_b (pc := 8) (tgt := 14) dX11_fell_8 (by decide) (fun h8 => ?_) (fun h8 => ?_)
  · refine V_aloadn (pc := 14) dX11_fell_14 rfl ?_
    refine V_getr (pc := 15) dX11_fell_15 fX11_19 zk_0 zr_0_1 ?_
    refine V_iloadn (pc := 18) dX11_fell_18 rfl ?_
    refine V_iloadn (pc := 19) dX11_fell_19 rfl ?_
    refine V_cv2 (pc := 20) dX11_fell_20 kX11_186 zk_32 (by decide) (Nat.le_of_ble_eq_true rfl) (s_hasSide LandAt_32 hL hp hi) rfl ?_
    refine V_ifne_b (pc := 23) (tgt := 29) dX11_fell_23 (by decide) (fun h23 => ?_) (fun h23 => ?_)
    · refine V_aloadn (pc := 29) dX11_fell_29 rfl ?_
      refine V_getr (pc := 30) dX11_fell_30 fX11_40 zk_0 zr_0_4 ?_
      refine V_iloadn (pc := 33) dX11_fell_33 rfl ?_
      refine V_iloadn (pc := 34) dX11_fell_34 rfl ?_
      refine V_cv2 (pc := 35) dX11_fell_35 kX11_208 zk_80 (by decide) (Nat.le_of_ble_eq_true rfl) (s_hasFallen PostsAt_80 hL hO hp hi) rfl ?_
      refine V_ifeq_b (pc := 38) (tgt := 45) dX11_fell_38 (by decide) (fun h38 => ?_) (fun h38 => ?_)
      · refine V_iconst (pc := 45) dX11_fell_45 ?_
        refine V_istore_4 (pc := 46) dX11_fell_46 (by decide) rfl ?_
        refine V_aloadn (pc := 48) dX11_fell_48 rfl ?_
        refine V_getr (pc := 49) dX11_fell_49 fX11_40 zk_0 zr_0_4 ?_
        refine V_iloadn (pc := 52) dX11_fell_52 rfl ?_
        refine V_iloadn (pc := 53) dX11_fell_53 rfl ?_
        refine V_iloadn (pc := 54) dX11_fell_54 rfl ?_
        refine V_cu3 (pc := 55) dX11_fell_55 kX11_211 zk_80 (by decide) (Nat.le_of_ble_eq_true rfl) (s_setFallen PostsAt_80 hL hO (by omega) (by omega) hb) ?_
        refine V_iload (pc := 58) dX11_fell_58 rfl ?_
        refine V_iret hX dX11_fell_60 rfl ?_
        unfold cFell
        repeat (first | rw [if_pos (show gS μ 32 p i by omega)] | rw [if_pos (show 0 ≤ p ∧ p < μ 32 0 by omega)] | rw [if_neg (show ¬ gS μ 32 p i by omega)] | rw [if_neg (show ¬ (0 ≤ p ∧ p < μ 32 0) by omega)])
        first | exact ⟨rfl, rfl⟩ | exact ⟨congrArg vi (bi_pos (by omega)).symm, rfl⟩ | exact ⟨congrArg vi (bi_neg (by omega)).symm, rfl⟩
      · refine V_iconst (pc := 41) dX11_fell_41 ?_
        refine V_goto (pc := 42) (tgt := 46) dX11_fell_42 (by decide) ?_
        refine V_istore_4 (pc := 46) dX11_fell_46 (by decide) rfl ?_
        refine V_aloadn (pc := 48) dX11_fell_48 rfl ?_
        refine V_getr (pc := 49) dX11_fell_49 fX11_40 zk_0 zr_0_4 ?_
        refine V_iloadn (pc := 52) dX11_fell_52 rfl ?_
        refine V_iloadn (pc := 53) dX11_fell_53 rfl ?_
        refine V_iloadn (pc := 54) dX11_fell_54 rfl ?_
        refine V_cu3 (pc := 55) dX11_fell_55 kX11_211 zk_80 (by decide) (Nat.le_of_ble_eq_true rfl) (s_setFallen PostsAt_80 hL hO (by omega) (by omega) hb) ?_
        refine V_iload (pc := 58) dX11_fell_58 rfl ?_
        refine V_iret hX dX11_fell_60 rfl ?_
        unfold cFell
        repeat (first | rw [if_pos (show gS μ 32 p i by omega)] | rw [if_pos (show 0 ≤ p ∧ p < μ 32 0 by omega)] | rw [if_neg (show ¬ gS μ 32 p i by omega)] | rw [if_neg (show ¬ (0 ≤ p ∧ p < μ 32 0) by omega)])
        first | exact ⟨rfl, rfl⟩ | exact ⟨congrArg vi (bi_pos (by omega)).symm, rfl⟩ | exact ⟨congrArg vi (bi_neg (by omega)).symm, rfl⟩
    · refine V_ldc (pc := 26) (n := -1000000002) dX11_fell_26 nX11_100 (by decide) ?_
      refine V_iret hX dX11_fell_28 rfl ?_
      unfold cFell
      repeat (first | rw [if_pos (show gS μ 32 p i by omega)] | rw [if_pos (show 0 ≤ p ∧ p < μ 32 0 by omega)] | rw [if_neg (show ¬ gS μ 32 p i by omega)] | rw [if_neg (show ¬ (0 ≤ p ∧ p < μ 32 0) by omega)])
      first | exact ⟨rfl, rfl⟩ | exact ⟨congrArg vi (bi_pos (by omega)).symm, rfl⟩ | exact ⟨congrArg vi (bi_neg (by omega)).symm, rfl⟩
  · refine V_ldc (pc := 11) (n := -1000000001) dX11_fell_11 nX11_160 (by decide) ?_
    refine V_iret hX dX11_fell_13 rfl ?_
    unfold cFell
    repeat (first | rw [if_pos (show gS μ 32 p i by omega)] | rw [if_pos (show 0 ≤ p ∧ p < μ 32 0 by omega)] | rw [if_neg (show ¬ gS μ 32 p i by omega)] | rw [if_neg (show ¬ (0 ≤ p ∧ p < μ 32 0) by omega)])
    first | exact ⟨rfl, rfl⟩ | exact ⟨congrArg vi (bi_pos (by omega)).symm, rfl⟩ | exact ⟨congrArg vi (bi_neg (by omega)).symm, rfl⟩

set_option maxRecDepth 20000 in
theorem t_paint {μ : Mem} (hC : CI μ) {p t k : Int} (hp : inR p) (ht : inR t) (hk : inR k) : SP mX11_paint [vr 0, vi p, vi t, vi k] μ (fun w m => w = vi (cPaint μ p t k).1 ∧ m = (cPaint μ p t k).2) := by
  refine SP_intro (ls := [vr 0, vi p, vi t, vi k, un]) (by decide +kernel) rfl rfl (Nat.le_of_ble_eq_true rfl) rfl (fun X hX => ?_)
  obtain ⟨hL, hO, hA, hA0, hln, hS, hB, hT, hsd, hi1, hi2⟩ := id hC
  obtain ⟨hL0, hL1, hL2, hL3, hL4⟩ := id hL
  have g1 := mT_rg hO p t
  refine V_aloadn (pc := 0) dX11_paint_0 rfl ?_
  refine V_getr (pc := 1) dX11_paint_1 fX11_19 zk_0 zr_0_1 ?_
  refine V_iloadn (pc := 4) dX11_paint_4 rfl ?_
  refine V_cv1 (pc := 5) dX11_paint_5 kX11_170 zk_32 (by decide) (Nat.le_of_ble_eq_true rfl) (s_hasPlace LandAt_32 hL (by omega)) rfl ?_
  refine V_ifeq_b (pc := 8) (tgt := 22) dX11_paint_8 (by decide) (fun h8 => ?_) (fun h8 => ?_)
  · refine V_ldc (pc := 22) (n := -1000000001) dX11_paint_22 nX11_160 (by decide) ?_
    refine V_iret hX dX11_paint_24 rfl ?_
    unfold cPaint
    repeat (first | rw [if_pos (by omega)] | rw [if_neg (by omega)])
    exact ⟨rfl, rfl⟩
  · refine V_aloadn (pc := 11) dX11_paint_11 rfl ?_
    refine V_getr (pc := 12) dX11_paint_12 fX11_19 zk_0 zr_0_1 ?_
    refine V_iloadn (pc := 15) dX11_paint_15 rfl ?_
    refine V_cv1 (pc := 16) dX11_paint_16 kX11_170 zk_32 (by decide) (Nat.le_of_ble_eq_true rfl) (s_hasPlace LandAt_32 hL (by omega)) rfl ?_
    refine V_ifne_b (pc := 19) (tgt := 25) dX11_paint_19 (by decide) (fun h19 => ?_) (fun h19 => ?_)
    · refine V_iloadn (pc := 25) dX11_paint_25 rfl ?_
      refine V_if_lt (pc := 26) (tgt := 36) dX11_paint_26 (by decide) (by omega) (fun h26 => ?_) (fun h26 => ?_)
      · refine V_ldc (pc := 36) (n := -1000000002) dX11_paint_36 nX11_100 (by decide) ?_
        refine V_iret hX dX11_paint_38 rfl ?_
        unfold cPaint
        repeat (first | rw [if_pos (by omega)] | rw [if_neg (by omega)])
        exact ⟨rfl, rfl⟩
      · refine V_iloadn (pc := 29) dX11_paint_29 rfl ?_
        refine V_sipush (pc := 30) dX11_paint_30 (by decide +kernel) ?_
        refine V_icmp_le (pc := 33) (tgt := 39) dX11_paint_33 (by decide) (by omega) (by decide) (fun h33 => ?_) (fun h33 => ?_)
        · refine V_aloadn (pc := 39) dX11_paint_39 rfl ?_
          refine V_getr (pc := 40) dX11_paint_40 fX11_40 zk_0 zr_0_4 ?_
          refine V_iloadn (pc := 43) dX11_paint_43 rfl ?_
          refine V_iloadn (pc := 44) dX11_paint_44 rfl ?_
          refine V_cv2 (pc := 45) dX11_paint_45 kX11_200 zk_80 (by decide) (Nat.le_of_ble_eq_true rfl) (s_milesTold PostsAt_80 hL hO hp ht) rfl ?_
          refine V_istore_4 (pc := 48) dX11_paint_48 (by decide) rfl ?_
          refine V_iload (pc := 50) dX11_paint_50 rfl ?_
          refine V_iconst (pc := 52) dX11_paint_52 ?_
          refine V_icmp_ne (pc := 53) (tgt := 59) dX11_paint_53 (by decide) (by omega) (by decide) (fun h53 => ?_) (fun h53 => ?_)
          · refine V_aloadn (pc := 59) dX11_paint_59 rfl ?_
            refine V_getr (pc := 60) dX11_paint_60 fX11_40 zk_0 zr_0_4 ?_
            refine V_iloadn (pc := 63) dX11_paint_63 rfl ?_
            refine V_iloadn (pc := 64) dX11_paint_64 rfl ?_
            refine V_iloadn (pc := 65) dX11_paint_65 rfl ?_
            refine V_cu3 (pc := 66) dX11_paint_66 kX11_215 zk_80 (by decide) (Nat.le_of_ble_eq_true rfl) (s_tellMiles PostsAt_80 hL hO (by omega) (by omega)) ?_
            refine V_iload (pc := 69) dX11_paint_69 rfl ?_
            refine V_iret hX dX11_paint_71 rfl ?_
            unfold cPaint
            repeat (first | rw [if_pos (by omega)] | rw [if_neg (by omega)])
            exact ⟨rfl, rfl⟩
          · refine V_ldc (pc := 56) (n := -1000000003) dX11_paint_56 nX11_203 (by decide) ?_
            refine V_iret hX dX11_paint_58 rfl ?_
            unfold cPaint
            repeat (first | rw [if_pos (by omega)] | rw [if_neg (by omega)])
            exact ⟨rfl, rfl⟩
        · refine V_ldc (pc := 36) (n := -1000000002) dX11_paint_36 nX11_100 (by decide) ?_
          refine V_iret hX dX11_paint_38 rfl ?_
          unfold cPaint
          repeat (first | rw [if_pos (by omega)] | rw [if_neg (by omega)])
          exact ⟨rfl, rfl⟩
    · refine V_ldc (pc := 22) (n := -1000000001) dX11_paint_22 nX11_160 (by decide) ?_
      refine V_iret hX dX11_paint_24 rfl ?_
      unfold cPaint
      repeat (first | rw [if_pos (by omega)] | rw [if_neg (by omega)])
      exact ⟨rfl, rfl⟩

set_option maxRecDepth 20000 in
theorem t_seen {μ : Mem} (hC : CI μ) {p t q : Int} (hp : inR p) (ht : inR t) (hq : inR q) : SP mX11_seen [vr 0, vi p, vi t, vi q] μ (fun w m => w = vi (cSeen μ p t q).1 ∧ m = (cSeen μ p t q).2) := by
  refine SP_intro (ls := [vr 0, vi p, vi t, vi q]) (by decide +kernel) rfl rfl (Nat.le_of_ble_eq_true rfl) rfl (fun X hX => ?_)
  obtain ⟨hL, hO, hA, hA0, hln, hS, hB, hT, hsd, hi1, hi2⟩ := id hC
  obtain ⟨hL0, hL1, hL2, hL3, hL4⟩ := id hL
  have g1 := gArm_rg hL p t
  have g0 := gSd_rg hL p
  have g2 := sTw_rg (μ := μ) (o := 32) (p := p) (q := q) (gSd μ 32 p).toNat 0 (by omega)
  obtain ⟨hS0, hS1⟩ := id hS
  refine V_aloadn (pc := 0) dX11_seen_0 rfl ?_
  refine V_getr (pc := 1) dX11_seen_1 fX11_19 zk_0 zr_0_1 ?_
  refine V_iloadn (pc := 4) dX11_seen_4 rfl ?_
  refine V_cv1 (pc := 5) dX11_seen_5 kX11_170 zk_32 (by decide) (Nat.le_of_ble_eq_true rfl) (s_hasPlace LandAt_32 hL (by omega)) rfl ?_
  refine V_ifeq_b (pc := 8) (tgt := 33) dX11_seen_8 (by decide) (fun h8 => ?_) (fun h8 => ?_)
  · refine V_ldc (pc := 33) (n := -1000000001) dX11_seen_33 nX11_160 (by decide) ?_
    refine V_iret hX dX11_seen_35 rfl ?_
    unfold cSeen
    repeat (first | rw [if_pos (by omega)] | rw [if_neg (by omega)])
    exact ⟨rfl, rfl⟩
  · refine V_aloadn (pc := 11) dX11_seen_11 rfl ?_
    refine V_getr (pc := 12) dX11_seen_12 fX11_19 zk_0 zr_0_1 ?_
    refine V_iloadn (pc := 15) dX11_seen_15 rfl ?_
    refine V_cv1 (pc := 16) dX11_seen_16 kX11_170 zk_32 (by decide) (Nat.le_of_ble_eq_true rfl) (s_hasPlace LandAt_32 hL (by omega)) rfl ?_
    refine V_ifeq_b (pc := 19) (tgt := 33) dX11_seen_19 (by decide) (fun h19 => ?_) (fun h19 => ?_)
    · refine V_ldc (pc := 33) (n := -1000000001) dX11_seen_33 nX11_160 (by decide) ?_
      refine V_iret hX dX11_seen_35 rfl ?_
      unfold cSeen
      repeat (first | rw [if_pos (by omega)] | rw [if_neg (by omega)])
      exact ⟨rfl, rfl⟩
    · refine V_aloadn (pc := 22) dX11_seen_22 rfl ?_
      refine V_getr (pc := 23) dX11_seen_23 fX11_19 zk_0 zr_0_1 ?_
      refine V_iloadn (pc := 26) dX11_seen_26 rfl ?_
      refine V_cv1 (pc := 27) dX11_seen_27 kX11_170 zk_32 (by decide) (Nat.le_of_ble_eq_true rfl) (s_hasPlace LandAt_32 hL (by omega)) rfl ?_
      refine V_ifne_b (pc := 30) (tgt := 36) dX11_seen_30 (by decide) (fun h30 => ?_) (fun h30 => ?_)
      · refine V_aloadn (pc := 36) dX11_seen_36 rfl ?_
        refine V_getr (pc := 37) dX11_seen_37 fX11_19 zk_0 zr_0_1 ?_
        refine V_iloadn (pc := 40) dX11_seen_40 rfl ?_
        refine V_iloadn (pc := 41) dX11_seen_41 rfl ?_
        refine V_cv2 (pc := 42) dX11_seen_42 kX11_246 zk_32 (by decide) (Nat.le_of_ble_eq_true rfl) (s_sideTowards LandAt_32 hL hp hq) rfl ?_
        refine V_iconst (pc := 45) dX11_seen_45 ?_
        refine V_icmp_eq (pc := 46) (tgt := 62) dX11_seen_46 (by decide) (by omega) (by decide) (fun h46 => ?_) (fun h46 => ?_)
        · refine V_ldc (pc := 62) (n := -1000000002) dX11_seen_62 nX11_100 (by decide) ?_
          refine V_iret hX dX11_seen_64 rfl ?_
          unfold cSeen
          repeat (first | rw [if_pos (by omega)] | rw [if_neg (by omega)])
          exact ⟨rfl, rfl⟩
        · refine V_aloadn (pc := 49) dX11_seen_49 rfl ?_
          refine V_getr (pc := 50) dX11_seen_50 fX11_19 zk_0 zr_0_1 ?_
          refine V_iloadn (pc := 53) dX11_seen_53 rfl ?_
          refine V_iloadn (pc := 54) dX11_seen_54 rfl ?_
          refine V_cv2 (pc := 55) dX11_seen_55 kX11_249 zk_32 (by decide) (Nat.le_of_ble_eq_true rfl) (s_trueArm LandAt_32 hL hp ht) rfl ?_
          refine V_iconst (pc := 58) dX11_seen_58 ?_
          refine V_icmp_ne (pc := 59) (tgt := 65) dX11_seen_59 (by decide) (by omega) (by decide) (fun h59 => ?_) (fun h59 => ?_)
          · refine V_aloadn (pc := 65) dX11_seen_65 rfl ?_
            refine V_getr (pc := 66) dX11_seen_66 fX11_72 zk_0 zr_0_8 ?_
            refine V_cv0 (pc := 69) dX11_seen_69 kX11_252 zk_144 (by decide) (Nat.le_of_ble_eq_true rfl) (s_sightFull hS0) rfl ?_
            refine V_ifeq_b (pc := 72) (tgt := 78) dX11_seen_72 (by decide) (fun h72 => ?_) (fun h72 => ?_)
            · refine V_aloadn (pc := 78) dX11_seen_78 rfl ?_
              refine V_getr (pc := 79) dX11_seen_79 fX11_72 zk_0 zr_0_8 ?_
              refine V_iloadn (pc := 82) dX11_seen_82 rfl ?_
              refine V_iloadn (pc := 83) dX11_seen_83 rfl ?_
              refine V_iloadn (pc := 84) dX11_seen_84 rfl ?_
              refine V_cu3 (pc := 85) dX11_seen_85 kX11_256 zk_144 (by decide) (Nat.le_of_ble_eq_true rfl) (s_sightAppend (by omega)) ?_
              refine V_aloadn (pc := 88) dX11_seen_88 rfl ?_
              refine V_getr (pc := 89) dX11_seen_89 fX11_72 zk_0 zr_0_8 ?_
              refine V_cv0 (pc := 92) dX11_seen_92 kX11_146 zk_144 (by decide) (Nat.le_of_ble_eq_true rfl) (s_sightSize) rfl ?_
              rw [mu_h]
              refine V_iret hX dX11_seen_95 rfl ?_
              unfold cSeen
              repeat (first | rw [if_pos (by omega)] | rw [if_neg (by omega)])
              exact ⟨rfl, rfl⟩
            · refine V_ldc (pc := 75) (n := -1000000004) dX11_seen_75 nX11_105 (by decide) ?_
              refine V_iret hX dX11_seen_77 rfl ?_
              unfold cSeen
              repeat (first | rw [if_pos (by omega)] | rw [if_neg (by omega)])
              exact ⟨rfl, rfl⟩
          · refine V_ldc (pc := 62) (n := -1000000002) dX11_seen_62 nX11_100 (by decide) ?_
            refine V_iret hX dX11_seen_64 rfl ?_
            unfold cSeen
            repeat (first | rw [if_pos (by omega)] | rw [if_neg (by omega)])
            exact ⟨rfl, rfl⟩
      · refine V_ldc (pc := 33) (n := -1000000001) dX11_seen_33 nX11_160 (by decide) ?_
        refine V_iret hX dX11_seen_35 rfl ?_
        unfold cSeen
        repeat (first | rw [if_pos (by omega)] | rw [if_neg (by omega)])
        exact ⟨rfl, rfl⟩

set_option maxRecDepth 20000 in
theorem t_write {μ : Mem} (hC : CI μ) {a t e f : Int} (ha : inR a) (ht : inR t) (he : inR e) (hf : inR f) : SP mX11_write [vr 0, vi a, vi t, vi e, vi f] μ (fun w m => w = vi (cWrite μ a t e f).1 ∧ m = (cWrite μ a t e f).2) := by
  refine SP_intro (ls := [vr 0, vi a, vi t, vi e, vi f]) (by decide +kernel) rfl rfl (Nat.le_of_ble_eq_true rfl) rfl (fun X hX => ?_)
  obtain ⟨hL, hO, hA, hA0, hln, hS, hB, hT, hsd, hi1, hi2⟩ := id hC
  obtain ⟨hL0, hL1, hL2, hL3, hL4⟩ := id hL
  obtain ⟨hB0, hB1⟩ := id hB
  refine V_aloadn (pc := 0) dX11_write_0 rfl ?_
  refine V_getr (pc := 1) dX11_write_1 fX11_19 zk_0 zr_0_1 ?_
  refine V_iloadn (pc := 4) dX11_write_4 rfl ?_
  refine V_cv1 (pc := 5) dX11_write_5 kX11_170 zk_32 (by decide) (Nat.le_of_ble_eq_true rfl) (s_hasPlace LandAt_32 hL (by omega)) rfl ?_
  refine V_ifeq_b (pc := 8) (tgt := 22) dX11_write_8 (by decide) (fun h8 => ?_) (fun h8 => ?_)
  · refine V_ldc (pc := 22) (n := -1000000001) dX11_write_22 nX11_160 (by decide) ?_
    refine V_iret hX dX11_write_24 rfl ?_
    unfold cWrite
    repeat (first | rw [if_pos (by omega)] | rw [if_neg (by omega)])
    exact ⟨rfl, rfl⟩
  · refine V_aloadn (pc := 11) dX11_write_11 rfl ?_
    refine V_getr (pc := 12) dX11_write_12 fX11_19 zk_0 zr_0_1 ?_
    refine V_iloadn (pc := 15) dX11_write_15 rfl ?_
    refine V_cv1 (pc := 16) dX11_write_16 kX11_170 zk_32 (by decide) (Nat.le_of_ble_eq_true rfl) (s_hasPlace LandAt_32 hL (by omega)) rfl ?_
    refine V_ifne_b (pc := 19) (tgt := 25) dX11_write_19 (by decide) (fun h19 => ?_) (fun h19 => ?_)
    · refine V_iloadn (pc := 25) dX11_write_25 rfl ?_
      refine V_iconst (pc := 26) dX11_write_26 ?_
      refine V_icmp_lt (pc := 27) (tgt := 48) dX11_write_27 (by decide) (by omega) (by decide) (fun h27 => ?_) (fun h27 => ?_)
      · refine V_ldc (pc := 48) (n := -1000000002) dX11_write_48 nX11_100 (by decide) ?_
        refine V_iret hX dX11_write_50 rfl ?_
        unfold cWrite
        repeat (first | rw [if_pos (by omega)] | rw [if_neg (by omega)])
        exact ⟨rfl, rfl⟩
      · refine V_iloadn (pc := 30) dX11_write_30 rfl ?_
        refine V_iconst (pc := 31) dX11_write_31 ?_
        refine V_icmp_gt (pc := 32) (tgt := 48) dX11_write_32 (by decide) (by omega) (by decide) (fun h32 => ?_) (fun h32 => ?_)
        · refine V_ldc (pc := 48) (n := -1000000002) dX11_write_48 nX11_100 (by decide) ?_
          refine V_iret hX dX11_write_50 rfl ?_
          unfold cWrite
          repeat (first | rw [if_pos (by omega)] | rw [if_neg (by omega)])
          exact ⟨rfl, rfl⟩
        · refine V_iload (pc := 35) dX11_write_35 rfl ?_
          refine V_if_lt (pc := 37) (tgt := 48) dX11_write_37 (by decide) (by omega) (fun h37 => ?_) (fun h37 => ?_)
          · refine V_ldc (pc := 48) (n := -1000000002) dX11_write_48 nX11_100 (by decide) ?_
            refine V_iret hX dX11_write_50 rfl ?_
            unfold cWrite
            repeat (first | rw [if_pos (by omega)] | rw [if_neg (by omega)])
            exact ⟨rfl, rfl⟩
          · refine V_iload (pc := 40) dX11_write_40 rfl ?_
            refine V_sipush (pc := 42) dX11_write_42 (by decide +kernel) ?_
            refine V_icmp_le (pc := 45) (tgt := 51) dX11_write_45 (by decide) (by omega) (by decide) (fun h45 => ?_) (fun h45 => ?_)
            · refine V_aloadn (pc := 51) dX11_write_51 rfl ?_
              refine V_getr (pc := 52) dX11_write_52 fX11_79 zk_0 zr_0_9 ?_
              refine V_cv0 (pc := 55) dX11_write_55 kX11_287 zk_160 (by decide) (Nat.le_of_ble_eq_true rfl) (s_bookFull hB0) rfl ?_
              refine V_ifeq_b (pc := 58) (tgt := 64) dX11_write_58 (by decide) (fun h58 => ?_) (fun h58 => ?_)
              · refine V_aloadn (pc := 64) dX11_write_64 rfl ?_
                refine V_getr (pc := 65) dX11_write_65 fX11_79 zk_0 zr_0_9 ?_
                refine V_iloadn (pc := 68) dX11_write_68 rfl ?_
                refine V_iloadn (pc := 69) dX11_write_69 rfl ?_
                refine V_iloadn (pc := 70) dX11_write_70 rfl ?_
                refine V_iload (pc := 71) dX11_write_71 rfl ?_
                refine V_cu4 (pc := 73) dX11_write_73 kX11_288 zk_160 (by decide) (Nat.le_of_ble_eq_true rfl) (s_bookAppend (by omega)) ?_
                refine V_aloadn (pc := 76) dX11_write_76 rfl ?_
                refine V_getr (pc := 77) dX11_write_77 fX11_79 zk_0 zr_0_9 ?_
                refine V_cv0 (pc := 80) dX11_write_80 kX11_149 zk_160 (by decide) (Nat.le_of_ble_eq_true rfl) (s_bookSize) rfl ?_
                rw [mu_h]
                refine V_iret hX dX11_write_83 rfl ?_
                unfold cWrite
                repeat (first | rw [if_pos (by omega)] | rw [if_neg (by omega)])
                exact ⟨rfl, rfl⟩
              · refine V_ldc (pc := 61) (n := -1000000004) dX11_write_61 nX11_105 (by decide) ?_
                refine V_iret hX dX11_write_63 rfl ?_
                unfold cWrite
                repeat (first | rw [if_pos (by omega)] | rw [if_neg (by omega)])
                exact ⟨rfl, rfl⟩
            · refine V_ldc (pc := 48) (n := -1000000002) dX11_write_48 nX11_100 (by decide) ?_
              refine V_iret hX dX11_write_50 rfl ?_
              unfold cWrite
              repeat (first | rw [if_pos (by omega)] | rw [if_neg (by omega)])
              exact ⟨rfl, rfl⟩
    · refine V_ldc (pc := 22) (n := -1000000001) dX11_write_22 nX11_160 (by decide) ?_
      refine V_iret hX dX11_write_24 rfl ?_
      unfold cWrite
      repeat (first | rw [if_pos (by omega)] | rw [if_neg (by omega)])
      exact ⟨rfl, rfl⟩

set_option maxRecDepth 20000 in
theorem t_forget {μ : Mem} : SP mX11_forget [vr 0] μ (fun w m => w = vi (μ 144 4) ∧ m = mu μ 144 4 0) := by
  refine SP_intro (ls := [vr 0, un]) (by decide +kernel) rfl rfl (Nat.le_of_ble_eq_true rfl) rfl (fun X hX => ?_)
  refine V_aloadn (pc := 0) dX11_forget_0 rfl ?_
  refine V_getr (pc := 1) dX11_forget_1 fX11_72 zk_0 zr_0_8 ?_
  refine V_cv0 (pc := 4) dX11_forget_4 kX11_146 zk_144 (by decide) (Nat.le_of_ble_eq_true rfl) (s_sightSize) rfl ?_
  refine V_istore_1 (pc := 7) dX11_forget_7 (by decide) rfl ?_
  refine V_aloadn (pc := 8) dX11_forget_8 rfl ?_
  refine V_getr (pc := 9) dX11_forget_9 fX11_72 zk_0 zr_0_8 ?_
  refine V_cu0 (pc := 12) dX11_forget_12 kX11_129 zk_144 (by decide) (Nat.le_of_ble_eq_true rfl) (s_sightClear) ?_
  refine V_iloadn (pc := 15) dX11_forget_15 rfl ?_
  refine V_iret hX dX11_forget_16 rfl ?_
  exact ⟨rfl, rfl⟩

set_option maxRecDepth 20000 in
theorem t_tear {μ : Mem} : SP mX11_tear [vr 0] μ (fun w m => w = vi (μ 160 4) ∧ m = mu μ 160 4 0) := by
  refine SP_intro (ls := [vr 0, un]) (by decide +kernel) rfl rfl (Nat.le_of_ble_eq_true rfl) rfl (fun X hX => ?_)
  refine V_aloadn (pc := 0) dX11_tear_0 rfl ?_
  refine V_getr (pc := 1) dX11_tear_1 fX11_79 zk_0 zr_0_9 ?_
  refine V_cv0 (pc := 4) dX11_tear_4 kX11_149 zk_160 (by decide) (Nat.le_of_ble_eq_true rfl) (s_bookSize) rfl ?_
  refine V_istore_1 (pc := 7) dX11_tear_7 (by decide) rfl ?_
  refine V_aloadn (pc := 8) dX11_tear_8 rfl ?_
  refine V_getr (pc := 9) dX11_tear_9 fX11_79 zk_0 zr_0_9 ?_
  refine V_cu0 (pc := 12) dX11_tear_12 kX11_130 zk_160 (by decide) (Nat.le_of_ble_eq_true rfl) (s_bookClear) ?_
  refine V_iloadn (pc := 15) dX11_tear_15 rfl ?_
  refine V_iret hX dX11_tear_16 rfl ?_
  exact ⟨rfl, rfl⟩

set_option maxRecDepth 20000 in
theorem t_fits {μ : Mem} (hC : CI μ) {p : Int} (hp : inR p) : SP mX11_fits [vr 0, vi p] μ (fun w m => w = vi (cFits μ p) ∧ m = μ) := by
  refine SP_intro (ls := [vr 0, vi p]) (by decide +kernel) rfl rfl (Nat.le_of_ble_eq_true rfl) rfl (fun X hX => ?_)
  obtain ⟨hL, hO, hA, hA0, hln, hS, hB, hT, hsd, hi1, hi2⟩ := id hC
  obtain ⟨hL0, hL1, hL2, hL3, hL4⟩ := id hL
  refine V_aloadn (pc := 0) dX11_fits_0 rfl ?_
  refine V_getr (pc := 1) dX11_fits_1 fX11_19 zk_0 zr_0_1 ?_
  refine V_iloadn (pc := 4) dX11_fits_4 rfl ?_
  refine V_cv1 (pc := 5) dX11_fits_5 kX11_170 zk_32 (by decide) (Nat.le_of_ble_eq_true rfl) (s_hasPlace LandAt_32 hL (by omega)) rfl ?_
  refine V_ifne_b (pc := 8) (tgt := 14) dX11_fits_8 (by decide) (fun h8 => ?_) (fun h8 => ?_)
  · refine V_aloadn (pc := 14) dX11_fits_14 rfl ?_
    refine V_getr (pc := 15) dX11_fits_15 fX11_72 zk_0 zr_0_8 ?_
    refine V_iloadn (pc := 18) dX11_fits_18 rfl ?_
    refine V_cv1 (pc := 19) dX11_fits_19 kX11_258 zk_144 (by decide) (Nat.le_of_ble_eq_true rfl) (s_fitting hL hA hA0 hS hp) rfl ?_
    refine V_iret hX dX11_fits_22 rfl ?_
    exact ⟨congrArg vi (by unfold cFits; first | (exfalso; omega) | (repeat (first | rw [if_pos (by omega)] | rw [if_neg (by omega)]))), rfl⟩
  · refine V_ldc (pc := 11) (n := -1000000001) dX11_fits_11 nX11_160 (by decide) ?_
    refine V_iret hX dX11_fits_13 rfl ?_
    exact ⟨congrArg vi (by unfold cFits; first | (exfalso; omega) | (repeat (first | rw [if_pos (by omega)] | rw [if_neg (by omega)]))), rfl⟩

set_option maxRecDepth 20000 in
theorem t_seed {μ : Mem} (hC : CI μ) {v : Int} (hv : inR v) : SP mX11_seed [vr 0, vi v] μ (fun w m => w = vi (cSeed μ v).1 ∧ m = (cSeed μ v).2) := by
  refine SP_intro (ls := [vr 0, vi v, un]) (by decide +kernel) rfl rfl (Nat.le_of_ble_eq_true rfl) rfl (fun X hX => ?_)
  refine V_iloadn (pc := 0) dX11_seed_0 rfl ?_
  refine V_if_ge (pc := 1) (tgt := 7) dX11_seed_1 (by decide) (by omega) (fun h1 => ?_) (fun h1 => ?_)
  · refine V_aloadn (pc := 7) dX11_seed_7 rfl ?_
    refine V_getr (pc := 8) dX11_seed_8 fX11_86 zk_0 zr_0_10 ?_
    refine V_cv0 (pc := 11) dX11_seed_11 kX11_301 zk_176 (by decide) (Nat.le_of_ble_eq_true rfl) (s_state) rfl ?_
    refine V_istore_2 (pc := 14) dX11_seed_14 (by decide) rfl ?_
    refine V_aloadn (pc := 15) dX11_seed_15 rfl ?_
    refine V_getr (pc := 16) dX11_seed_16 fX11_86 zk_0 zr_0_10 ?_
    refine V_iloadn (pc := 19) dX11_seed_19 rfl ?_
    refine V_cu1 (pc := 20) dX11_seed_20 kX11_304 zk_176 (by decide) (Nat.le_of_ble_eq_true rfl) (s_startFrom) ?_
    refine V_iloadn (pc := 23) dX11_seed_23 rfl ?_
    refine V_iret hX dX11_seed_24 rfl ?_
    unfold cSeed
    repeat (first | rw [if_pos (by omega)] | rw [if_neg (by omega)])
    exact ⟨rfl, rfl⟩
  · refine V_ldc (pc := 4) (n := -1000000002) dX11_seed_4 nX11_100 (by decide) ?_
    refine V_iret hX dX11_seed_6 rfl ?_
    unfold cSeed
    repeat (first | rw [if_pos (by omega)] | rw [if_neg (by omega)])
    exact ⟨rfl, rfl⟩

set_option maxRecDepth 20000 in
theorem t_odds {μ : Mem} (hC : CI μ) {a t o : Int} (ha : inR a) (ht : inR t) (ho : inR o) : SP mX11_odds [vr 0, vi a, vi t, vi o] μ (fun w m => w = vi (cOdds μ a t o).1 ∧ m = (cOdds μ a t o).2) := by
  refine SP_intro (ls := [vr 0, vi a, vi t, vi o]) (by decide +kernel) rfl rfl (Nat.le_of_ble_eq_true rfl) rfl (fun X hX => ?_)
  obtain ⟨hL, hO, hA, hA0, hln, hS, hB, hT, hsd, hi1, hi2⟩ := id hC
  obtain ⟨hL0, hL1, hL2, hL3, hL4⟩ := id hL
  refine V_aloadn (pc := 0) dX11_odds_0 rfl ?_
  refine V_getr (pc := 1) dX11_odds_1 fX11_19 zk_0 zr_0_1 ?_
  refine V_iloadn (pc := 4) dX11_odds_4 rfl ?_
  refine V_cv1 (pc := 5) dX11_odds_5 kX11_170 zk_32 (by decide) (Nat.le_of_ble_eq_true rfl) (s_hasPlace LandAt_32 hL (by omega)) rfl ?_
  refine V_ifeq_b (pc := 8) (tgt := 22) dX11_odds_8 (by decide) (fun h8 => ?_) (fun h8 => ?_)
  · refine V_ldc (pc := 22) (n := -1000000001) dX11_odds_22 nX11_160 (by decide) ?_
    refine V_iret hX dX11_odds_24 rfl ?_
    unfold cOdds
    repeat (first | rw [if_pos (by omega)] | rw [if_neg (by omega)])
    exact ⟨rfl, rfl⟩
  · refine V_aloadn (pc := 11) dX11_odds_11 rfl ?_
    refine V_getr (pc := 12) dX11_odds_12 fX11_19 zk_0 zr_0_1 ?_
    refine V_iloadn (pc := 15) dX11_odds_15 rfl ?_
    refine V_cv1 (pc := 16) dX11_odds_16 kX11_170 zk_32 (by decide) (Nat.le_of_ble_eq_true rfl) (s_hasPlace LandAt_32 hL (by omega)) rfl ?_
    refine V_ifne_b (pc := 19) (tgt := 25) dX11_odds_19 (by decide) (fun h19 => ?_) (fun h19 => ?_)
    · refine V_iloadn (pc := 25) dX11_odds_25 rfl ?_
      refine V_if_lt (pc := 26) (tgt := 35) dX11_odds_26 (by decide) (by omega) (fun h26 => ?_) (fun h26 => ?_)
      · refine V_ldc (pc := 35) (n := -1000000002) dX11_odds_35 nX11_100 (by decide) ?_
        refine V_iret hX dX11_odds_37 rfl ?_
        unfold cOdds
        repeat (first | rw [if_pos (by omega)] | rw [if_neg (by omega)])
        exact ⟨rfl, rfl⟩
      · refine V_iloadn (pc := 29) dX11_odds_29 rfl ?_
        refine V_bipush (pc := 30) dX11_odds_30 (by decide +kernel) ?_
        refine V_icmp_le (pc := 32) (tgt := 38) dX11_odds_32 (by decide) (by omega) (by decide) (fun h32 => ?_) (fun h32 => ?_)
        · refine V_aloadn (pc := 38) dX11_odds_38 rfl ?_
          refine V_getr (pc := 39) dX11_odds_39 fX11_65 zk_0 zr_0_7 ?_
          refine V_iloadn (pc := 42) dX11_odds_42 rfl ?_
          refine V_iloadn (pc := 43) dX11_odds_43 rfl ?_
          refine V_iloadn (pc := 44) dX11_odds_44 rfl ?_
          refine V_cv3 (pc := 45) dX11_odds_45 kX11_278 zk_128 (by decide) (Nat.le_of_ble_eq_true rfl) (s_oddsToCome hL hO hA ha ht (by omega)) rfl ?_
          refine V_iret hX dX11_odds_48 rfl ?_
          unfold cOdds
          repeat (first | rw [if_pos (by omega)] | rw [if_neg (by omega)])
          exact ⟨rfl, rfl⟩
        · refine V_ldc (pc := 35) (n := -1000000002) dX11_odds_35 nX11_100 (by decide) ?_
          refine V_iret hX dX11_odds_37 rfl ?_
          unfold cOdds
          repeat (first | rw [if_pos (by omega)] | rw [if_neg (by omega)])
          exact ⟨rfl, rfl⟩
    · refine V_ldc (pc := 22) (n := -1000000001) dX11_odds_22 nX11_160 (by decide) ?_
      refine V_iret hX dX11_odds_24 rfl ?_
      unfold cOdds
      repeat (first | rw [if_pos (by omega)] | rw [if_neg (by omega)])
      exact ⟨rfl, rfl⟩

set_option maxRecDepth 20000 in
theorem t_judge {μ : Mem} (hC : CI μ) : SP mX11_judge [vr 0] μ (fun w m => w = vi (fwr μ (μ 160 4).toNat 0) ∧ Fr μ m) := by
  refine SP_intro (ls := [vr 0]) (by decide +kernel) rfl rfl (Nat.le_of_ble_eq_true rfl) rfl (fun X hX => ?_)
  obtain ⟨hL, hO, hA, hA0, hln, hS, hB, hT, hsd, hi1, hi2⟩ := id hC
  obtain ⟨hL0, hL1, hL2, hL3, hL4⟩ := id hL
  refine V_aloadn (pc := 0) dX11_judge_0 rfl ?_
  refine V_getr (pc := 1) dX11_judge_1 fX11_79 zk_0 zr_0_9 ?_
  refine V_aloadn (pc := 4) dX11_judge_4 rfl ?_
  refine V_getr (pc := 5) dX11_judge_5 fX11_49 zk_0 zr_0_5 ?_
  refine V_cq1 (pc := 8) dX11_judge_8 kX11_291 zk_160 (by decide) (Nat.le_of_ble_eq_true rfl) (s_firstWrong hL hO hA hln hB) ?_
  intro w m hm
  obtain ⟨rfl, hm⟩ := hm
  show V X _ _ _ [vi (fwr μ (μ 160 4).toNat 0)] m
  refine V_iret hX dX11_judge_11 rfl ?_
  exact ⟨rfl, hm⟩

set_option maxRecDepth 20000 in
theorem t_way {μ : Mem} (hC : CI μ) {a t i : Int} (ha : inR a) (ht : inR t) (hi : inR i) : SP mX11_way [vr 0, vi a, vi t, vi i] μ (fun w m => w = vi (cWay μ a t i) ∧ Fr μ m) := by
  refine SP_intro (ls := [vr 0, vi a, vi t, vi i]) (by decide +kernel) rfl rfl (Nat.le_of_ble_eq_true rfl) rfl (fun X hX => ?_)
  obtain ⟨hL, hO, hA, hA0, hln, hS, hB, hT, hsd, hi1, hi2⟩ := id hC
  obtain ⟨hL0, hL1, hL2, hL3, hL4⟩ := id hL
  refine V_aloadn (pc := 0) dX11_way_0 rfl ?_
  refine V_getr (pc := 1) dX11_way_1 fX11_19 zk_0 zr_0_1 ?_
  refine V_iloadn (pc := 4) dX11_way_4 rfl ?_
  refine V_cv1 (pc := 5) dX11_way_5 kX11_170 zk_32 (by decide) (Nat.le_of_ble_eq_true rfl) (s_hasPlace LandAt_32 hL (by omega)) rfl ?_
  refine V_ifeq_b (pc := 8) (tgt := 22) dX11_way_8 (by decide) (fun h8 => ?_) (fun h8 => ?_)
  · refine V_ldc (pc := 22) (n := -1000000001) dX11_way_22 nX11_160 (by decide) ?_
    refine V_iret hX dX11_way_24 rfl ?_
    exact ⟨congrArg vi (by unfold cWay; repeat (first | rw [if_pos (by omega)] | rw [if_neg (by omega)])), Fr.rf μ⟩
  · refine V_aloadn (pc := 11) dX11_way_11 rfl ?_
    refine V_getr (pc := 12) dX11_way_12 fX11_19 zk_0 zr_0_1 ?_
    refine V_iloadn (pc := 15) dX11_way_15 rfl ?_
    refine V_cv1 (pc := 16) dX11_way_16 kX11_170 zk_32 (by decide) (Nat.le_of_ble_eq_true rfl) (s_hasPlace LandAt_32 hL (by omega)) rfl ?_
    refine V_ifne_b (pc := 19) (tgt := 25) dX11_way_19 (by decide) (fun h19 => ?_) (fun h19 => ?_)
    · refine V_aloadn (pc := 25) dX11_way_25 rfl ?_
      refine V_getr (pc := 26) dX11_way_26 fX11_49 zk_0 zr_0_5 ?_
      refine V_iloadn (pc := 29) dX11_way_29 rfl ?_
      refine V_iloadn (pc := 30) dX11_way_30 rfl ?_
      refine V_iconst (pc := 31) dX11_way_31 ?_
      refine V_cq3 (pc := 32) dX11_way_32 kX11_231 zk_96 (by decide) (Nat.le_of_ble_eq_true rfl) (s_goFromTo hL hO hA ha ht (by decide)) ?_
      intro w m hm
      obtain ⟨rfl, hm⟩ := hm
      have rr := wkF_rg μ hln a t 0
      show V X _ _ _ _ m
      refine V_aloadn (pc := 35) dX11_way_35 rfl ?_
      refine V_getr (pc := 36) dX11_way_36 fX11_49 zk_0 zr_0_5 ?_
      refine V_iloadn (pc := 39) dX11_way_39 rfl ?_
      refine V_cv1 (pc := 40) dX11_way_40 kX11_243 zk_96 (by decide) (Nat.le_of_ble_eq_true rfl) (s_placeBehind (by rw [hm.2.2.2.1]; omega) hi) rfl ?_
      rw [hm.way]
      refine V_iret hX dX11_way_43 rfl ?_
      exact ⟨congrArg vi (by unfold cWay; rw [if_pos (show (0 ≤ a ∧ a < μ 32 0) ∧ (0 ≤ t ∧ t < μ 32 0) by omega)]), hm.fr⟩
    · refine V_ldc (pc := 22) (n := -1000000001) dX11_way_22 nX11_160 (by decide) ?_
      refine V_iret hX dX11_way_24 rfl ?_
      exact ⟨congrArg vi (by unfold cWay; repeat (first | rw [if_pos (by omega)] | rw [if_neg (by omega)])), Fr.rf μ⟩

set_option maxRecDepth 20000 in
theorem t_walk {μ : Mem} (hC : CI μ) {a t u : Int} (ha : inR a) (ht : inR t) (hu : inR u) : SP mX11_walk [vr 0, vi a, vi t, vi u] μ (fun w m => w = vi (cWalk μ a t u) ∧ Fr μ m) := by
  refine SP_intro (ls := [vr 0, vi a, vi t, vi u]) (by decide +kernel) rfl rfl (Nat.le_of_ble_eq_true rfl) rfl (fun X hX => ?_)
  obtain ⟨hL, hO, hA, hA0, hln, hS, hB, hT, hsd, hi1, hi2⟩ := id hC
  obtain ⟨hL0, hL1, hL2, hL3, hL4⟩ := id hL
  refine V_aloadn (pc := 0) dX11_walk_0 rfl ?_
  refine V_getr (pc := 1) dX11_walk_1 fX11_19 zk_0 zr_0_1 ?_
  refine V_iloadn (pc := 4) dX11_walk_4 rfl ?_
  refine V_cv1 (pc := 5) dX11_walk_5 kX11_170 zk_32 (by decide) (Nat.le_of_ble_eq_true rfl) (s_hasPlace LandAt_32 hL (by omega)) rfl ?_
  refine V_ifeq_b (pc := 8) (tgt := 22) dX11_walk_8 (by decide) (fun h8 => ?_) (fun h8 => ?_)
  · refine V_ldc (pc := 22) (n := -1000000001) dX11_walk_22 nX11_160 (by decide) ?_
    refine V_iret hX dX11_walk_24 rfl ?_
    exact ⟨congrArg vi (by unfold cWalk; repeat (first | rw [if_pos (by omega)] | rw [if_neg (by omega)])), Fr.rf μ⟩
  · refine V_aloadn (pc := 11) dX11_walk_11 rfl ?_
    refine V_getr (pc := 12) dX11_walk_12 fX11_19 zk_0 zr_0_1 ?_
    refine V_iloadn (pc := 15) dX11_walk_15 rfl ?_
    refine V_cv1 (pc := 16) dX11_walk_16 kX11_170 zk_32 (by decide) (Nat.le_of_ble_eq_true rfl) (s_hasPlace LandAt_32 hL (by omega)) rfl ?_
    refine V_ifne_b (pc := 19) (tgt := 25) dX11_walk_19 (by decide) (fun h19 => ?_) (fun h19 => ?_)
    · refine V_iloadn (pc := 25) dX11_walk_25 rfl ?_
      refine V_if_lt (pc := 26) (tgt := 34) dX11_walk_26 (by decide) (by omega) (fun h26 => ?_) (fun h26 => ?_)
      · refine V_ldc (pc := 34) (n := -1000000002) dX11_walk_34 nX11_100 (by decide) ?_
        refine V_iret hX dX11_walk_36 rfl ?_
        exact ⟨congrArg vi (by unfold cWalk; repeat (first | rw [if_pos (by omega)] | rw [if_neg (by omega)])), Fr.rf μ⟩
      · refine V_iloadn (pc := 29) dX11_walk_29 rfl ?_
        refine V_iconst (pc := 30) dX11_walk_30 ?_
        refine V_icmp_le (pc := 31) (tgt := 37) dX11_walk_31 (by decide) (by omega) (by decide) (fun h31 => ?_) (fun h31 => ?_)
        · refine V_aloadn (pc := 37) dX11_walk_37 rfl ?_
          refine V_getr (pc := 38) dX11_walk_38 fX11_49 zk_0 zr_0_5 ?_
          refine V_iloadn (pc := 41) dX11_walk_41 rfl ?_
          refine V_iloadn (pc := 42) dX11_walk_42 rfl ?_
          refine V_iconst (pc := 43) dX11_walk_43 ?_
          refine V_cq3 (pc := 44) dX11_walk_44 kX11_231 zk_96 (by decide) (Nat.le_of_ble_eq_true rfl) (s_goFromTo hL hO hA ha ht (by decide)) ?_
          intro w m hm
          obtain ⟨rfl, hm⟩ := hm
          have rr := wkF_rg μ hln a t 0
          show V X _ _ _ _ m
          refine V_iloadn (pc := 47) dX11_walk_47 rfl ?_
          by_cases hs0 : u = 0
          · refine V_lookup (pc := 48) (off := 28) (tgt := 76) dX11_walk_48 (by omega) (by decide) (by rw [hs0]; decide) (by decide) ?_
            refine V_aloadn (pc := 76) dX11_walk_76 rfl ?_
            refine V_getr (pc := 77) dX11_walk_77 fX11_49 zk_0 zr_0_5 ?_
            refine V_cv0 (pc := 80) dX11_walk_80 kX11_234 zk_96 (by decide) (Nat.le_of_ble_eq_true rfl) (s_ending) rfl ?_
            rw [hm.2.1]
            refine V_iret hX dX11_walk_83 rfl ?_
            exact ⟨congrArg vi (by unfold cWalk; repeat (first | rw [if_pos (by omega)] | rw [if_neg (by omega)])), hm.fr⟩
          by_cases hs1 : u = 1
          · refine V_lookup (pc := 48) (off := 36) (tgt := 84) dX11_walk_48 (by omega) (by decide) (by rw [hs1]; decide) (by decide) ?_
            refine V_aloadn (pc := 84) dX11_walk_84 rfl ?_
            refine V_getr (pc := 85) dX11_walk_85 fX11_49 zk_0 zr_0_5 ?_
            refine V_cv0 (pc := 88) dX11_walk_88 kX11_237 zk_96 (by decide) (Nat.le_of_ble_eq_true rfl) (s_milesGone) rfl ?_
            rw [hm.2.2.1]
            refine V_iret hX dX11_walk_91 rfl ?_
            exact ⟨congrArg vi (by unfold cWalk; repeat (first | rw [if_pos (by omega)] | rw [if_neg (by omega)])), hm.fr⟩
          refine V_lookup (pc := 48) (off := 44) (tgt := 92) dX11_walk_48 (by omega) (by decide) (by rw [show u = 2 by omega]; decide) (by decide) ?_
          refine V_aloadn (pc := 92) dX11_walk_92 rfl ?_
          refine V_getr (pc := 93) dX11_walk_93 fX11_49 zk_0 zr_0_5 ?_
          refine V_aloadn (pc := 96) dX11_walk_96 rfl ?_
          refine V_getr (pc := 97) dX11_walk_97 fX11_49 zk_0 zr_0_5 ?_
          refine V_cv0 (pc := 100) dX11_walk_100 kX11_240 zk_96 (by decide) (Nat.le_of_ble_eq_true rfl) (s_roadsGone) rfl ?_
          rw [hm.2.2.2.1]
          refine V_cv1 (pc := 103) dX11_walk_103 kX11_243 zk_96 (by decide) (Nat.le_of_ble_eq_true rfl) (s_placeBehind (by rw [hm.2.2.2.1]; omega) (by omega)) rfl ?_
          rw [hm.way, if_pos (by omega), show (((wkF μ a t 0).2.2.length : Nat) : Int).toNat = (wkF μ a t 0).2.2.length by omega]
          refine V_iret hX dX11_walk_106 rfl ?_
          exact ⟨congrArg vi (by unfold cWalk; repeat (first | rw [if_pos (by omega)] | rw [if_neg (by omega)])), hm.fr⟩
        · refine V_ldc (pc := 34) (n := -1000000002) dX11_walk_34 nX11_100 (by decide) ?_
          refine V_iret hX dX11_walk_36 rfl ?_
          exact ⟨congrArg vi (by unfold cWalk; repeat (first | rw [if_pos (by omega)] | rw [if_neg (by omega)])), Fr.rf μ⟩
    · refine V_ldc (pc := 22) (n := -1000000001) dX11_walk_22 nX11_160 (by decide) ?_
      refine V_iret hX dX11_walk_24 rfl ?_
      exact ⟨congrArg vi (by unfold cWalk; repeat (first | rw [if_pos (by omega)] | rw [if_neg (by omega)])), Fr.rf μ⟩


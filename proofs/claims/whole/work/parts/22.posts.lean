abbrev In (s k : Int) : Prop := 0 ≤ k ∧ k < 31 ∧ ¬ hb s k = 0
def pT (μ : Mem) (o : Nat) (p : Int) : Int := if 0 ≤ p ∧ p < μ 32 0 then μ (o + 2) p.toNat else 0
def pF (μ : Mem) (o : Nat) (p : Int) : Int := if 0 ≤ p ∧ p < μ 32 0 then μ (o + 3) p.toNat else 0
abbrev Fl (μ : Mem) (o : Nat) (p arm : Int) : Prop := (0 ≤ p ∧ p < μ 32 0) ∧ In (μ (o + 3) p.toNat) arm
def pM (μ : Mem) (o : Nat) (p t : Int) : Int := if (0 ≤ p ∧ p < μ 32 0) ∧ (0 ≤ t ∧ t < μ 32 0) then μ (o + 4) (p * 9 + t).toNat else -1
def aT (μ : Mem) (o : Nat) (p t r : Int) : Int := if ¬ gArm μ 32 p t = -1 ∧ Fl μ o p (gArm μ 32 p t) ∧ ¬ In r p then -1 else gArm μ 32 p t
def sA (μ : Mem) (p arm turn : Int) : Int := if 0 < gSd μ 32 p then (arm + turn) % gSd μ 32 p else -1
def rT (μ : Mem) (o : Nat) (p t r : Int) : Int := if aT μ o p t r = -1 then -1 else gRd μ 32 p (sA μ p (aT μ o p t r) (if In r p then 0 else pT μ o p))
def mT (μ : Mem) (o : Nat) (p t : Int) : Int := if aT μ o p t 0 = -1 then -1 else pM μ o p t
/-- posts' numbers in their bounds -/
def POK (μ : Mem) (o : Nat) : Prop := (∀ p : Nat, 0 ≤ μ (o + 2) p ∧ μ (o + 2) p ≤ 4) ∧ (∀ p : Nat, 0 ≤ μ (o + 3) p ∧ μ (o + 3) p ≤ 31) ∧ ∀ j : Nat, -1 ≤ μ (o + 4) j ∧ μ (o + 4) j ≤ 1000000
theorem pT_rg {μ : Mem} {o : Nat} (h : POK μ o) (p : Int) : 0 ≤ pT μ o p ∧ pT μ o p ≤ 4 := by
  unfold pT; split
  · exact h.1 _
  · decide
theorem pF_rg {μ : Mem} {o : Nat} (h : POK μ o) (p : Int) : 0 ≤ pF μ o p ∧ pF μ o p ≤ 31 := by
  unfold pF; split
  · exact h.2.1 _
  · decide
theorem pM_rg {μ : Mem} {o : Nat} (h : POK μ o) (p t : Int) : -1 ≤ pM μ o p t ∧ pM μ o p t ≤ 1000000 := by
  unfold pM; split
  · exact h.2.2 _
  · decide
theorem mT_rg {μ : Mem} {o : Nat} (h : POK μ o) (p t : Int) : -1 ≤ mT μ o p t ∧ mT μ o p t ≤ 1000000 := by
  unfold mT; split
  · decide
  · exact pM_rg h p t
theorem aT_rg {μ : Mem} {o : Nat} (h : LOK μ 32) (p t r : Int) : inR (aT μ o p t r) := by
  unfold aT; split
  · decide
  · exact gArm_rg h p t
theorem gRd_rg {μ : Mem} {o : Nat} (h : LOK μ o) (p i : Int) : inR (gRd μ o p i) := by
  unfold gRd; split
  · exact h.rg 11 _
  · decide
theorem gLn_rg {μ : Mem} {o : Nat} (h : LOK μ o) (r : Int) : inR (gLn μ o r) := by
  unfold gLn; split
  · exact h.rg 6 _
  · decide
theorem sA_rg {μ : Mem} (h : LOK μ 32) (p a t : Int) : -1 ≤ sA μ p a t ∧ sA μ p a t ≤ 4 := by
  have h2 := gSd_rg h p
  unfold sA; split
  · have h3 := Int.emod_nonneg (a + t) (show gSd μ 32 p ≠ 0 by omega)
    have h4 := Int.emod_lt_of_pos (a + t) (show 0 < gSd μ 32 p by omega)
    omega
  · decide

set_option maxRecDepth 20000 in
theorem s_turnOf {μ : Mem} {o : Nat} (ho : PostsAt o) (hL : LOK μ 32) (hO : POK μ o) {p : Int} (hp : inR p) : SP mX6_turnOf [vr o, vi p] μ (fun w m => w = vi (pT μ o p) ∧ m = μ) := by
  refine SP_intro (ls := [vr o, vi p]) (by decide +kernel) rfl rfl (Nat.le_of_ble_eq_true rfl) rfl (fun X hX => ?_)
  obtain ⟨hL0, hL1, hL2, hL3, hL4⟩ := id hL
  refine V_aloadn (pc := 0) dX6_turnOf_0 rfl ?_
  refine V_getr (pc := 1) dX6_turnOf_1 fX6_21 (PostsAt_k ho) (PostsAt_z0 ho) ?_
  refine V_iloadn (pc := 4) dX6_turnOf_4 rfl ?_
  refine V_cv1 (pc := 5) dX6_turnOf_5 kX6_41 zk_32 (by decide) (Nat.le_of_ble_eq_true rfl) (s_hasPlace LandAt_32 hL (by omega)) rfl ?_
  refine V_ifeq_b (pc := 8) (tgt := 20) dX6_turnOf_8 (by decide) (fun h8 => ?_) (fun h8 => ?_)
  · refine V_iconst (pc := 20) dX6_turnOf_20 ?_
    refine V_iret hX dX6_turnOf_21 rfl ?_
    exact ⟨congrArg vi (by unfold pT; first | (exfalso; omega) | rw [if_pos (by omega)] | rw [if_neg (by omega)]), rfl⟩
  · refine V_aloadn (pc := 11) dX6_turnOf_11 rfl ?_
    refine V_getr (pc := 12) dX6_turnOf_12 fX6_9 (PostsAt_k ho) (PostsAt_z1 ho) ?_
    refine V_iloadn (pc := 15) dX6_turnOf_15 rfl ?_
    refine V_iald (pc := 16) dX6_turnOf_16 (PostsAt_a1 ho) (by omega) (by omega) (by decide) ?_
    refine V_goto (pc := 17) (tgt := 21) dX6_turnOf_17 (by decide) ?_
    refine V_iret hX dX6_turnOf_21 rfl ?_
    exact ⟨congrArg vi (by unfold pT; first | (exfalso; omega) | rw [if_pos (by omega)] | rw [if_neg (by omega)]), rfl⟩

set_option maxRecDepth 20000 in
theorem s_fallenSet {μ : Mem} {o : Nat} (ho : PostsAt o) (hL : LOK μ 32) (hO : POK μ o) {p : Int} (hp : inR p) : SP mX6_fallenSet [vr o, vi p] μ (fun w m => w = vi (pF μ o p) ∧ m = μ) := by
  refine SP_intro (ls := [vr o, vi p]) (by decide +kernel) rfl rfl (Nat.le_of_ble_eq_true rfl) rfl (fun X hX => ?_)
  obtain ⟨hL0, hL1, hL2, hL3, hL4⟩ := id hL
  refine V_aloadn (pc := 0) dX6_fallenSet_0 rfl ?_
  refine V_getr (pc := 1) dX6_fallenSet_1 fX6_21 (PostsAt_k ho) (PostsAt_z0 ho) ?_
  refine V_iloadn (pc := 4) dX6_fallenSet_4 rfl ?_
  refine V_cv1 (pc := 5) dX6_fallenSet_5 kX6_41 zk_32 (by decide) (Nat.le_of_ble_eq_true rfl) (s_hasPlace LandAt_32 hL (by omega)) rfl ?_
  refine V_ifeq_b (pc := 8) (tgt := 20) dX6_fallenSet_8 (by decide) (fun h8 => ?_) (fun h8 => ?_)
  · refine V_iconst (pc := 20) dX6_fallenSet_20 ?_
    refine V_iret hX dX6_fallenSet_21 rfl ?_
    exact ⟨congrArg vi (by unfold pF; first | (exfalso; omega) | rw [if_pos (by omega)] | rw [if_neg (by omega)]), rfl⟩
  · refine V_aloadn (pc := 11) dX6_fallenSet_11 rfl ?_
    refine V_getr (pc := 12) dX6_fallenSet_12 fX6_15 (PostsAt_k ho) (PostsAt_z2 ho) ?_
    refine V_iloadn (pc := 15) dX6_fallenSet_15 rfl ?_
    refine V_iald (pc := 16) dX6_fallenSet_16 (PostsAt_a2 ho) (by omega) (by omega) (by decide) ?_
    refine V_goto (pc := 17) (tgt := 21) dX6_fallenSet_17 (by decide) ?_
    refine V_iret hX dX6_fallenSet_21 rfl ?_
    exact ⟨congrArg vi (by unfold pF; first | (exfalso; omega) | rw [if_pos (by omega)] | rw [if_neg (by omega)]), rfl⟩

set_option maxRecDepth 20000 in
theorem s_hasFallen {μ : Mem} {o : Nat} (ho : PostsAt o) (hL : LOK μ 32) (hO : POK μ o) {p a : Int} (hp : inR p) (ha : inR a) : SP mX6_hasFallen [vr o, vi p, vi a] μ (fun w m => w = vi (bi (Fl μ o p a)) ∧ m = μ) := by
  refine SP_intro (ls := [vr o, vi p, vi a]) (by decide +kernel) rfl rfl (Nat.le_of_ble_eq_true rfl) rfl (fun X hX => ?_)
  obtain ⟨hL0, hL1, hL2, hL3, hL4⟩ := id hL
  have hs := hO.2.1 p.toNat
  refine V_aloadn (pc := 0) dX6_hasFallen_0 rfl ?_
  refine V_getr (pc := 1) dX6_hasFallen_1 fX6_21 (PostsAt_k ho) (PostsAt_z0 ho) ?_
  refine V_iloadn (pc := 4) dX6_hasFallen_4 rfl ?_
  refine V_cv1 (pc := 5) dX6_hasFallen_5 kX6_41 zk_32 (by decide) (Nat.le_of_ble_eq_true rfl) (s_hasPlace LandAt_32 hL (by omega)) rfl ?_
  refine V_ifeq_b (pc := 8) (tgt := 28) dX6_hasFallen_8 (by decide) (fun h8 => ?_) (fun h8 => ?_)
  · refine V_iconst (pc := 28) dX6_hasFallen_28 ?_
    refine V_zret hX dX6_hasFallen_29 rfl (by first | exact Or.inl rfl | exact Or.inr rfl | exact bi_01 _) ?_
    exact ⟨congrArg vi (by first | (exfalso; omega) | rw [bi_pos (by omega)] | rw [bi_neg (by omega)]), rfl⟩
  · refine V_aloadn (pc := 11) dX6_hasFallen_11 rfl ?_
    refine V_getr (pc := 12) dX6_hasFallen_12 fX6_15 (PostsAt_k ho) (PostsAt_z2 ho) ?_
    refine V_iloadn (pc := 15) dX6_hasFallen_15 rfl ?_
    refine V_iald (pc := 16) dX6_hasFallen_16 (PostsAt_a2 ho) (by omega) (by omega) (by decide) ?_
    refine V_iloadn (pc := 17) dX6_hasFallen_17 rfl ?_
    refine V_cn2 (pc := 18) dX6_hasFallen_18 kX6_62 (by decide) (Nat.le_of_ble_eq_true rfl) (s_isIn (by omega) (by omega)) rfl ?_
    refine V_ifeq_b (pc := 21) (tgt := 28) dX6_hasFallen_21 (by decide) (fun h21 => ?_) (fun h21 => ?_)
    · refine V_iconst (pc := 28) dX6_hasFallen_28 ?_
      refine V_zret hX dX6_hasFallen_29 rfl (by first | exact Or.inl rfl | exact Or.inr rfl | exact bi_01 _) ?_
      exact ⟨congrArg vi (by first | (exfalso; omega) | rw [bi_pos (by omega)] | rw [bi_neg (by omega)]), rfl⟩
    · refine V_iconst (pc := 24) dX6_hasFallen_24 ?_
      refine V_goto (pc := 25) (tgt := 29) dX6_hasFallen_25 (by decide) ?_
      refine V_zret hX dX6_hasFallen_29 rfl (by first | exact Or.inl rfl | exact Or.inr rfl | exact bi_01 _) ?_
      exact ⟨congrArg vi (by first | (exfalso; omega) | rw [bi_pos (by omega)] | rw [bi_neg (by omega)]), rfl⟩

set_option maxRecDepth 20000 in
theorem s_leadsAstray {μ : Mem} {o : Nat} (ho : PostsAt o) (hL : LOK μ 32) (hO : POK μ o) {p : Int} (hp : inR p) : SP mX6_leadsAstray [vr o, vi p] μ (fun w m => w = vi (bi (¬ pT μ o p = 0 ∨ ¬ pF μ o p = 0)) ∧ m = μ) := by
  refine SP_intro (ls := [vr o, vi p]) (by decide +kernel) rfl rfl (Nat.le_of_ble_eq_true rfl) rfl (fun X hX => ?_)
  have h1 := pT_rg hO p
  have h2 := pF_rg hO p
  refine V_aloadn (pc := 0) dX6_leadsAstray_0 rfl ?_
  refine V_iloadn (pc := 1) dX6_leadsAstray_1 rfl ?_
  refine V_cv1 (pc := 2) dX6_leadsAstray_2 kX6_55 (PostsAt_k ho) (by decide) (Nat.le_of_ble_eq_true rfl) (s_turnOf ho hL hO hp) rfl ?_
  refine V_if_ne (pc := 5) (tgt := 16) dX6_leadsAstray_5 (by decide) (by omega) (fun h5 => ?_) (fun h5 => ?_)
  · refine V_iconst (pc := 16) dX6_leadsAstray_16 ?_
    refine V_goto (pc := 17) (tgt := 21) dX6_leadsAstray_17 (by decide) ?_
    refine V_zret hX dX6_leadsAstray_21 rfl (by first | exact Or.inl rfl | exact Or.inr rfl | exact bi_01 _) ?_
    exact ⟨congrArg vi (by first | (exfalso; omega) | rw [bi_pos (by omega)] | rw [bi_neg (by omega)]), rfl⟩
  · refine V_aloadn (pc := 8) dX6_leadsAstray_8 rfl ?_
    refine V_iloadn (pc := 9) dX6_leadsAstray_9 rfl ?_
    refine V_cv1 (pc := 10) dX6_leadsAstray_10 kX6_59 (PostsAt_k ho) (by decide) (Nat.le_of_ble_eq_true rfl) (s_fallenSet ho hL hO hp) rfl ?_
    refine V_if_eq (pc := 13) (tgt := 20) dX6_leadsAstray_13 (by decide) (by omega) (fun h13 => ?_) (fun h13 => ?_)
    · refine V_iconst (pc := 20) dX6_leadsAstray_20 ?_
      refine V_zret hX dX6_leadsAstray_21 rfl (by first | exact Or.inl rfl | exact Or.inr rfl | exact bi_01 _) ?_
      exact ⟨congrArg vi (by first | (exfalso; omega) | rw [bi_pos (by omega)] | rw [bi_neg (by omega)]), rfl⟩
    · refine V_iconst (pc := 16) dX6_leadsAstray_16 ?_
      refine V_goto (pc := 17) (tgt := 21) dX6_leadsAstray_17 (by decide) ?_
      refine V_zret hX dX6_leadsAstray_21 rfl (by first | exact Or.inl rfl | exact Or.inr rfl | exact bi_01 _) ?_
      exact ⟨congrArg vi (by first | (exfalso; omega) | rw [bi_pos (by omega)] | rw [bi_neg (by omega)]), rfl⟩

set_option maxRecDepth 20000 in
theorem s_paintedMiles {μ : Mem} {o : Nat} (ho : PostsAt o) (hL : LOK μ 32) (hO : POK μ o) {p t : Int} (hp : inR p) (ht : inR t) : SP mX6_paintedMiles [vr o, vi p, vi t] μ (fun w m => w = vi (pM μ o p t) ∧ m = μ) := by
  refine SP_intro (ls := [vr o, vi p, vi t]) (by decide +kernel) rfl rfl (Nat.le_of_ble_eq_true rfl) rfl (fun X hX => ?_)
  obtain ⟨hL0, hL1, hL2, hL3, hL4⟩ := id hL
  refine V_aloadn (pc := 0) dX6_paintedMiles_0 rfl ?_
  refine V_getr (pc := 1) dX6_paintedMiles_1 fX6_21 (PostsAt_k ho) (PostsAt_z0 ho) ?_
  refine V_iloadn (pc := 4) dX6_paintedMiles_4 rfl ?_
  refine V_cv1 (pc := 5) dX6_paintedMiles_5 kX6_41 zk_32 (by decide) (Nat.le_of_ble_eq_true rfl) (s_hasPlace LandAt_32 hL (by omega)) rfl ?_
  refine V_ifeq_b (pc := 8) (tgt := 36) dX6_paintedMiles_8 (by decide) (fun h8 => ?_) (fun h8 => ?_)
  · refine V_iconst (pc := 36) dX6_paintedMiles_36 ?_
    refine V_iret hX dX6_paintedMiles_37 rfl ?_
    exact ⟨congrArg vi (by unfold pM; first | (exfalso; omega) | rw [if_pos (by omega)] | rw [if_neg (by omega)]), rfl⟩
  · refine V_aloadn (pc := 11) dX6_paintedMiles_11 rfl ?_
    refine V_getr (pc := 12) dX6_paintedMiles_12 fX6_21 (PostsAt_k ho) (PostsAt_z0 ho) ?_
    refine V_iloadn (pc := 15) dX6_paintedMiles_15 rfl ?_
    refine V_cv1 (pc := 16) dX6_paintedMiles_16 kX6_41 zk_32 (by decide) (Nat.le_of_ble_eq_true rfl) (s_hasPlace LandAt_32 hL (by omega)) rfl ?_
    refine V_ifeq_b (pc := 19) (tgt := 36) dX6_paintedMiles_19 (by decide) (fun h19 => ?_) (fun h19 => ?_)
    · refine V_iconst (pc := 36) dX6_paintedMiles_36 ?_
      refine V_iret hX dX6_paintedMiles_37 rfl ?_
      exact ⟨congrArg vi (by unfold pM; first | (exfalso; omega) | rw [if_pos (by omega)] | rw [if_neg (by omega)]), rfl⟩
    · refine V_aloadn (pc := 22) dX6_paintedMiles_22 rfl ?_
      refine V_getr (pc := 23) dX6_paintedMiles_23 fX6_18 (PostsAt_k ho) (PostsAt_z3 ho) ?_
      refine V_iloadn (pc := 26) dX6_paintedMiles_26 rfl ?_
      refine V_bipush (pc := 27) dX6_paintedMiles_27 (by decide +kernel) ?_
      refine V_imul (pc := 29) dX6_paintedMiles_29 ?_
      refine V_iloadn (pc := 30) dX6_paintedMiles_30 rfl ?_
      refine V_iadd (pc := 31) dX6_paintedMiles_31 ?_
      refine V_iald (pc := 32) dX6_paintedMiles_32 (PostsAt_a3 ho) (by omega) (by omega) (by decide) ?_
      refine V_goto (pc := 33) (tgt := 37) dX6_paintedMiles_33 (by decide) ?_
      refine V_iret hX dX6_paintedMiles_37 rfl ?_
      exact ⟨congrArg vi (by unfold pM; first | (exfalso; omega) | rw [if_pos (by omega)] | rw [if_neg (by omega)]), rfl⟩

set_option maxRecDepth 20000 in
theorem s_armThatTells {μ : Mem} {o : Nat} (ho : PostsAt o) (hL : LOK μ 32) (hO : POK μ o) {p t r : Int} (hp : inR p) (ht : inR t) (hr : inR r) : SP mX6_armThatTells [vr o, vi p, vi t, vi r] μ (fun w m => w = vi (aT μ o p t r) ∧ m = μ) := by
  refine SP_intro (ls := [vr o, vi p, vi t, vi r, un]) (by decide +kernel) rfl rfl (Nat.le_of_ble_eq_true rfl) rfl (fun X hX => ?_)
  obtain ⟨hL0, hL1, hL2, hL3, hL4⟩ := id hL
  have h1 := gArm_rg hL p t
  refine V_aloadn (pc := 0) dX6_armThatTells_0 rfl ?_
  refine V_getr (pc := 1) dX6_armThatTells_1 fX6_21 (PostsAt_k ho) (PostsAt_z0 ho) ?_
  refine V_iloadn (pc := 4) dX6_armThatTells_4 rfl ?_
  refine V_iloadn (pc := 5) dX6_armThatTells_5 rfl ?_
  refine V_cv2 (pc := 6) dX6_armThatTells_6 kX6_81 zk_32 (by decide) (Nat.le_of_ble_eq_true rfl) (s_trueArm LandAt_32 hL hp ht) rfl ?_
  refine V_istore_4 (pc := 9) dX6_armThatTells_9 (by decide) rfl ?_
  refine V_iload (pc := 11) dX6_armThatTells_11 rfl ?_
  refine V_iconst (pc := 13) dX6_armThatTells_13 ?_
  refine V_icmp_eq (pc := 14) (tgt := 39) dX6_armThatTells_14 (by decide) (by omega) (by decide) (fun h14 => ?_) (fun h14 => ?_)
  · refine V_iload (pc := 39) dX6_armThatTells_39 rfl ?_
    refine V_iret hX dX6_armThatTells_41 rfl ?_
    exact ⟨congrArg vi (by unfold aT; first | (exfalso; omega) | rw [if_pos (by omega)] | rw [if_neg (by omega)]), rfl⟩
  · refine V_aloadn (pc := 17) dX6_armThatTells_17 rfl ?_
    refine V_iloadn (pc := 18) dX6_armThatTells_18 rfl ?_
    refine V_iload (pc := 19) dX6_armThatTells_19 rfl ?_
    refine V_cv2 (pc := 21) dX6_armThatTells_21 kX6_84 (PostsAt_k ho) (by decide) (Nat.le_of_ble_eq_true rfl) (s_hasFallen ho hL hO hp h1) rfl ?_
    refine V_ifeq_b (pc := 24) (tgt := 39) dX6_armThatTells_24 (by decide) (fun h24 => ?_) (fun h24 => ?_)
    · refine V_iload (pc := 39) dX6_armThatTells_39 rfl ?_
      refine V_iret hX dX6_armThatTells_41 rfl ?_
      exact ⟨congrArg vi (by unfold aT; first | (exfalso; omega) | rw [if_pos (by omega)] | rw [if_neg (by omega)]), rfl⟩
    · refine V_iloadn (pc := 27) dX6_armThatTells_27 rfl ?_
      refine V_iloadn (pc := 28) dX6_armThatTells_28 rfl ?_
      refine V_cn2 (pc := 29) dX6_armThatTells_29 kX6_62 (by decide) (Nat.le_of_ble_eq_true rfl) (s_isIn hr hp) rfl ?_
      refine V_ifne_b (pc := 32) (tgt := 39) dX6_armThatTells_32 (by decide) (fun h32 => ?_) (fun h32 => ?_)
      · refine V_iload (pc := 39) dX6_armThatTells_39 rfl ?_
        refine V_iret hX dX6_armThatTells_41 rfl ?_
        exact ⟨congrArg vi (by unfold aT; first | (exfalso; omega) | rw [if_pos (by omega)] | rw [if_neg (by omega)]), rfl⟩
      · refine V_iconst (pc := 35) dX6_armThatTells_35 ?_
        refine V_goto (pc := 36) (tgt := 41) dX6_armThatTells_36 (by decide) ?_
        refine V_iret hX dX6_armThatTells_41 rfl ?_
        exact ⟨congrArg vi (by unfold aT; first | (exfalso; omega) | rw [if_pos (by omega)] | rw [if_neg (by omega)]), rfl⟩

set_option maxRecDepth 20000 in
theorem s_sideOfArm {μ : Mem} {o : Nat} (ho : PostsAt o) (hL : LOK μ 32) (hO : POK μ o) {p a t : Int} (hp : inR p) (ha : inR (a + t)) : SP mX6_sideOfArm [vr o, vi p, vi a, vi t] μ (fun w m => w = vi (sA μ p a t) ∧ m = μ) := by
  refine SP_intro (ls := [vr o, vi p, vi a, vi t, un]) (by decide +kernel) rfl rfl (Nat.le_of_ble_eq_true rfl) rfl (fun X hX => ?_)
  have h1 := gSd_rg hL p
  refine V_aloadn (pc := 0) dX6_sideOfArm_0 rfl ?_
  refine V_getr (pc := 1) dX6_sideOfArm_1 fX6_21 (PostsAt_k ho) (PostsAt_z0 ho) ?_
  refine V_iloadn (pc := 4) dX6_sideOfArm_4 rfl ?_
  refine V_cv1 (pc := 5) dX6_sideOfArm_5 kX6_66 zk_32 (by decide) (Nat.le_of_ble_eq_true rfl) (s_sidesOf LandAt_32 hL hp) rfl ?_
  refine V_istore_4 (pc := 8) dX6_sideOfArm_8 (by decide) rfl ?_
  refine V_iload (pc := 10) dX6_sideOfArm_10 rfl ?_
  refine V_if_le (pc := 12) (tgt := 26) dX6_sideOfArm_12 (by decide) (by omega) (fun h12 => ?_) (fun h12 => ?_)
  · refine V_iconst (pc := 26) dX6_sideOfArm_26 ?_
    refine V_iret hX dX6_sideOfArm_27 rfl ?_
    exact ⟨congrArg vi (by unfold sA; first | (exfalso; omega) | rw [if_pos (by omega)] | rw [if_neg (by omega)]), rfl⟩
  · refine V_iloadn (pc := 15) dX6_sideOfArm_15 rfl ?_
    refine V_iloadn (pc := 16) dX6_sideOfArm_16 rfl ?_
    refine V_iadd (pc := 17) dX6_sideOfArm_17 ?_
    refine V_iload (pc := 18) dX6_sideOfArm_18 rfl ?_
    refine V_cs2 (pc := 20) dX6_sideOfArm_20 kX6_69 (by decide) (Nat.le_of_ble_eq_true rfl) (s_floorMod ha (by omega) (by omega)) rfl ?_
    refine V_goto (pc := 23) (tgt := 27) dX6_sideOfArm_23 (by decide) ?_
    refine V_iret hX dX6_sideOfArm_27 rfl ?_
    exact ⟨congrArg vi (by unfold sA; first | (exfalso; omega) | rw [if_pos (by omega)] | rw [if_neg (by omega)]), rfl⟩

set_option maxRecDepth 20000 in
theorem s_roadToTake {μ : Mem} {o : Nat} (ho : PostsAt o) (hL : LOK μ 32) (hO : POK μ o) (hA : ∀ p t, gArm μ 32 p t ≤ 5) {p t r : Int} (hp : inR p) (ht : inR t) (hr : inR r) : SP mX6_roadToTake [vr o, vi p, vi t, vi r] μ (fun w m => w = vi (rT μ o p t r) ∧ m = μ) := by
  refine SP_intro (ls := [vr o, vi p, vi t, vi r, un]) (by decide +kernel) rfl rfl (Nat.le_of_ble_eq_true rfl) rfl (fun X hX => ?_)
  have h1 := aT_rg (o := o) hL p t r
  have h2 := pT_rg hO p
  have h3 : aT μ o p t r ≤ 5 := by unfold aT; split; decide; exact hA p t
  have h4 := fun x => sA_rg hL p (aT μ o p t r) x
  refine V_aloadn (pc := 0) dX6_roadToTake_0 rfl ?_
  refine V_iloadn (pc := 1) dX6_roadToTake_1 rfl ?_
  refine V_iloadn (pc := 2) dX6_roadToTake_2 rfl ?_
  refine V_iloadn (pc := 3) dX6_roadToTake_3 rfl ?_
  refine V_cv3 (pc := 4) dX6_roadToTake_4 kX6_77 (PostsAt_k ho) (by decide) (Nat.le_of_ble_eq_true rfl) (s_armThatTells ho hL hO hp ht hr) rfl ?_
  refine V_istore_4 (pc := 7) dX6_roadToTake_7 (by decide) rfl ?_
  refine V_iload (pc := 9) dX6_roadToTake_9 rfl ?_
  refine V_iconst (pc := 11) dX6_roadToTake_11 ?_
  refine V_icmp_ne (pc := 12) (tgt := 17) dX6_roadToTake_12 (by decide) (by omega) (by decide) (fun h12 => ?_) (fun h12 => ?_)
  · refine V_aloadn (pc := 17) dX6_roadToTake_17 rfl ?_
    refine V_getr (pc := 18) dX6_roadToTake_18 fX6_21 (PostsAt_k ho) (PostsAt_z0 ho) ?_
    refine V_iloadn (pc := 21) dX6_roadToTake_21 rfl ?_
    refine V_aloadn (pc := 22) dX6_roadToTake_22 rfl ?_
    refine V_iloadn (pc := 23) dX6_roadToTake_23 rfl ?_
    refine V_iload (pc := 24) dX6_roadToTake_24 rfl ?_
    refine V_iloadn (pc := 26) dX6_roadToTake_26 rfl ?_
    refine V_iloadn (pc := 27) dX6_roadToTake_27 rfl ?_
    refine V_cn2 (pc := 28) dX6_roadToTake_28 kX6_62 (by decide) (Nat.le_of_ble_eq_true rfl) (s_isIn hr hp) rfl ?_
    refine V_ifeq_b (pc := 31) (tgt := 38) dX6_roadToTake_31 (by decide) (fun h31 => ?_) (fun h31 => ?_)
    · refine V_aloadn (pc := 38) dX6_roadToTake_38 rfl ?_
      refine V_iloadn (pc := 39) dX6_roadToTake_39 rfl ?_
      refine V_cv1 (pc := 40) dX6_roadToTake_40 kX6_55 (PostsAt_k ho) (by decide) (Nat.le_of_ble_eq_true rfl) (s_turnOf ho hL hO hp) rfl ?_
      refine V_cv3 (pc := 43) dX6_roadToTake_43 kX6_87 (PostsAt_k ho) (by decide) (Nat.le_of_ble_eq_true rfl) (s_sideOfArm ho hL hO hp (by omega)) rfl ?_
      refine V_cv2 (pc := 46) dX6_roadToTake_46 kX6_90 zk_32 (by decide) (Nat.le_of_ble_eq_true rfl) (s_roadAtSide LandAt_32 hL hp (by have := h4 0; have := h4 (pT μ o p); omega)) rfl ?_
      refine V_iret hX dX6_roadToTake_49 rfl ?_
      exact ⟨congrArg vi (by unfold rT; first | (rw [if_pos (by omega)]; done) | (rw [if_neg (by omega)]; first | rw [if_pos (by omega)] | rw [if_neg (by omega)])), rfl⟩
    · refine V_iconst (pc := 34) dX6_roadToTake_34 ?_
      refine V_goto (pc := 35) (tgt := 43) dX6_roadToTake_35 (by decide) ?_
      refine V_cv3 (pc := 43) dX6_roadToTake_43 kX6_87 (PostsAt_k ho) (by decide) (Nat.le_of_ble_eq_true rfl) (s_sideOfArm ho hL hO hp (by omega)) rfl ?_
      refine V_cv2 (pc := 46) dX6_roadToTake_46 kX6_90 zk_32 (by decide) (Nat.le_of_ble_eq_true rfl) (s_roadAtSide LandAt_32 hL hp (by have := h4 0; have := h4 (pT μ o p); omega)) rfl ?_
      refine V_iret hX dX6_roadToTake_49 rfl ?_
      exact ⟨congrArg vi (by unfold rT; first | (rw [if_pos (by omega)]; done) | (rw [if_neg (by omega)]; first | rw [if_pos (by omega)] | rw [if_neg (by omega)])), rfl⟩
  · refine V_iconst (pc := 15) dX6_roadToTake_15 ?_
    refine V_iret hX dX6_roadToTake_16 rfl ?_
    exact ⟨congrArg vi (by unfold rT; first | (rw [if_pos (by omega)]; done) | (rw [if_neg (by omega)]; first | rw [if_pos (by omega)] | rw [if_neg (by omega)])), rfl⟩

set_option maxRecDepth 20000 in
theorem s_milesTold {μ : Mem} {o : Nat} (ho : PostsAt o) (hL : LOK μ 32) (hO : POK μ o) {p t : Int} (hp : inR p) (ht : inR t) : SP mX6_milesTold [vr o, vi p, vi t] μ (fun w m => w = vi (mT μ o p t) ∧ m = μ) := by
  refine SP_intro (ls := [vr o, vi p, vi t]) (by decide +kernel) rfl rfl (Nat.le_of_ble_eq_true rfl) rfl (fun X hX => ?_)
  have h1 := aT_rg (o := o) hL p t 0
  refine V_aloadn (pc := 0) dX6_milesTold_0 rfl ?_
  refine V_iloadn (pc := 1) dX6_milesTold_1 rfl ?_
  refine V_iloadn (pc := 2) dX6_milesTold_2 rfl ?_
  refine V_iconst (pc := 3) dX6_milesTold_3 ?_
  refine V_cv3 (pc := 4) dX6_milesTold_4 kX6_77 (PostsAt_k ho) (by decide) (Nat.le_of_ble_eq_true rfl) (s_armThatTells ho hL hO hp ht (by decide)) rfl ?_
  refine V_iconst (pc := 7) dX6_milesTold_7 ?_
  refine V_icmp_ne (pc := 8) (tgt := 15) dX6_milesTold_8 (by decide) (by omega) (by decide) (fun h8 => ?_) (fun h8 => ?_)
  · refine V_aloadn (pc := 15) dX6_milesTold_15 rfl ?_
    refine V_iloadn (pc := 16) dX6_milesTold_16 rfl ?_
    refine V_iloadn (pc := 17) dX6_milesTold_17 rfl ?_
    refine V_cv2 (pc := 18) dX6_milesTold_18 kX6_49 (PostsAt_k ho) (by decide) (Nat.le_of_ble_eq_true rfl) (s_paintedMiles ho hL hO hp ht) rfl ?_
    refine V_iret hX dX6_milesTold_21 rfl ?_
    exact ⟨congrArg vi (by unfold mT; first | (exfalso; omega) | rw [if_pos (by omega)] | rw [if_neg (by omega)]), rfl⟩
  · refine V_iconst (pc := 11) dX6_milesTold_11 ?_
    refine V_goto (pc := 12) (tgt := 21) dX6_milesTold_12 (by decide) ?_
    refine V_iret hX dX6_milesTold_21 rfl ?_
    exact ⟨congrArg vi (by unfold mT; first | (exfalso; omega) | rw [if_pos (by omega)] | rw [if_neg (by omega)]), rfl⟩

set_option maxRecDepth 20000 in
theorem s_quarrelsWithLand {μ : Mem} {o : Nat} (ho : PostsAt o) (hL : LOK μ 32) (hO : POK μ o) {p t : Int} (hp : inR p) (ht : inR t) : SP mX6_quarrelsWithLand [vr o, vi p, vi t] μ (fun w m => w = vi (bi (¬ mT μ o p t = -1 ∧ ¬ mT μ o p t = gFar μ 32 p t)) ∧ m = μ) := by
  refine SP_intro (ls := [vr o, vi p, vi t, un]) (by decide +kernel) rfl rfl (Nat.le_of_ble_eq_true rfl) rfl (fun X hX => ?_)
  have h1 := mT_rg hO p t
  have h2 := gFar_rg hL p t
  refine V_aloadn (pc := 0) dX6_quarrelsWithLand_0 rfl ?_
  refine V_iloadn (pc := 1) dX6_quarrelsWithLand_1 rfl ?_
  refine V_iloadn (pc := 2) dX6_quarrelsWithLand_2 rfl ?_
  refine V_cv2 (pc := 3) dX6_quarrelsWithLand_3 kX6_93 (PostsAt_k ho) (by decide) (Nat.le_of_ble_eq_true rfl) (s_milesTold ho hL hO hp ht) rfl ?_
  refine V_istore_3 (pc := 6) dX6_quarrelsWithLand_6 (by decide) rfl ?_
  refine V_iloadn (pc := 7) dX6_quarrelsWithLand_7 rfl ?_
  refine V_iconst (pc := 8) dX6_quarrelsWithLand_8 ?_
  refine V_icmp_eq (pc := 9) (tgt := 29) dX6_quarrelsWithLand_9 (by decide) (by omega) (by decide) (fun h9 => ?_) (fun h9 => ?_)
  · refine V_iconst (pc := 29) dX6_quarrelsWithLand_29 ?_
    refine V_zret hX dX6_quarrelsWithLand_30 rfl (by first | exact Or.inl rfl | exact Or.inr rfl | exact bi_01 _) ?_
    exact ⟨congrArg vi (by first | (exfalso; omega) | rw [bi_pos (by omega)] | rw [bi_neg (by omega)]), rfl⟩
  · refine V_iloadn (pc := 12) dX6_quarrelsWithLand_12 rfl ?_
    refine V_aloadn (pc := 13) dX6_quarrelsWithLand_13 rfl ?_
    refine V_getr (pc := 14) dX6_quarrelsWithLand_14 fX6_21 (PostsAt_k ho) (PostsAt_z0 ho) ?_
    refine V_iloadn (pc := 17) dX6_quarrelsWithLand_17 rfl ?_
    refine V_iloadn (pc := 18) dX6_quarrelsWithLand_18 rfl ?_
    refine V_cv2 (pc := 19) dX6_quarrelsWithLand_19 kX6_45 zk_32 (by decide) (Nat.le_of_ble_eq_true rfl) (s_fewestMiles LandAt_32 hL hp ht) rfl ?_
    refine V_icmp_eq (pc := 22) (tgt := 29) dX6_quarrelsWithLand_22 (by decide) (by omega) (by omega) (fun h22 => ?_) (fun h22 => ?_)
    · refine V_iconst (pc := 29) dX6_quarrelsWithLand_29 ?_
      refine V_zret hX dX6_quarrelsWithLand_30 rfl (by first | exact Or.inl rfl | exact Or.inr rfl | exact bi_01 _) ?_
      exact ⟨congrArg vi (by first | (exfalso; omega) | rw [bi_pos (by omega)] | rw [bi_neg (by omega)]), rfl⟩
    · refine V_iconst (pc := 25) dX6_quarrelsWithLand_25 ?_
      refine V_goto (pc := 26) (tgt := 30) dX6_quarrelsWithLand_26 (by decide) ?_
      refine V_zret hX dX6_quarrelsWithLand_30 rfl (by first | exact Or.inl rfl | exact Or.inr rfl | exact bi_01 _) ?_
      exact ⟨congrArg vi (by first | (exfalso; omega) | rw [bi_pos (by omega)] | rw [bi_neg (by omega)]), rfl⟩

set_option maxRecDepth 20000 in
theorem s_quarrelsOnTheWay {μ : Mem} {o : Nat} (ho : PostsAt o) (hL : LOK μ 32) (hO : POK μ o) {p t : Int} (hp : inR p) (ht : inR t) : SP mX6_quarrelsOnTheWay [vr o, vi p, vi t] μ (fun w m => w = vi (bi (¬ mT μ o p t = -1 ∧ ¬ mT μ o (gBy μ 32 p (gRd μ 32 p (gArm μ 32 p t))) t = -1 ∧ ¬ mT μ o p t - mT μ o (gBy μ 32 p (gRd μ 32 p (gArm μ 32 p t))) t = gLn μ 32 (gRd μ 32 p (gArm μ 32 p t)))) ∧ m = μ) := by
  refine SP_intro (ls := [vr o, vi p, vi t, un, un, un]) (by decide +kernel) rfl rfl (Nat.le_of_ble_eq_true rfl) rfl (fun X hX => ?_)
  have h1 := mT_rg hO p t
  have h2 := gArm_rg hL p t
  have h3 := gRd_rg hL p (gArm μ 32 p t)
  have h4 := gBy_rg hL p (gRd μ 32 p (gArm μ 32 p t))
  have h5 := mT_rg hO (gBy μ 32 p (gRd μ 32 p (gArm μ 32 p t))) t
  have h6 := gLn_rg hL (gRd μ 32 p (gArm μ 32 p t))
  refine V_aloadn (pc := 0) dX6_quarrelsOnTheWay_0 rfl ?_
  refine V_iloadn (pc := 1) dX6_quarrelsOnTheWay_1 rfl ?_
  refine V_iloadn (pc := 2) dX6_quarrelsOnTheWay_2 rfl ?_
  refine V_cv2 (pc := 3) dX6_quarrelsOnTheWay_3 kX6_93 (PostsAt_k ho) (by decide) (Nat.le_of_ble_eq_true rfl) (s_milesTold ho hL hO (by omega) ht) rfl ?_
  refine V_istore_3 (pc := 6) dX6_quarrelsOnTheWay_6 (by decide) rfl ?_
  refine V_iloadn (pc := 7) dX6_quarrelsOnTheWay_7 rfl ?_
  refine V_iconst (pc := 8) dX6_quarrelsOnTheWay_8 ?_
  refine V_icmp_ne (pc := 9) (tgt := 14) dX6_quarrelsOnTheWay_9 (by decide) (by omega) (by decide) (fun h9 => ?_) (fun h9 => ?_)
  · refine V_aloadn (pc := 14) dX6_quarrelsOnTheWay_14 rfl ?_
    refine V_getr (pc := 15) dX6_quarrelsOnTheWay_15 fX6_21 (PostsAt_k ho) (PostsAt_z0 ho) ?_
    refine V_iloadn (pc := 18) dX6_quarrelsOnTheWay_18 rfl ?_
    refine V_aloadn (pc := 19) dX6_quarrelsOnTheWay_19 rfl ?_
    refine V_getr (pc := 20) dX6_quarrelsOnTheWay_20 fX6_21 (PostsAt_k ho) (PostsAt_z0 ho) ?_
    refine V_iloadn (pc := 23) dX6_quarrelsOnTheWay_23 rfl ?_
    refine V_iloadn (pc := 24) dX6_quarrelsOnTheWay_24 rfl ?_
    refine V_cv2 (pc := 25) dX6_quarrelsOnTheWay_25 kX6_81 zk_32 (by decide) (Nat.le_of_ble_eq_true rfl) (s_trueArm LandAt_32 hL hp ht) rfl ?_
    refine V_cv2 (pc := 28) dX6_quarrelsOnTheWay_28 kX6_90 zk_32 (by decide) (Nat.le_of_ble_eq_true rfl) (s_roadAtSide LandAt_32 hL hp h2) rfl ?_
    refine V_istore_4 (pc := 31) dX6_quarrelsOnTheWay_31 (by decide) rfl ?_
    refine V_aloadn (pc := 33) dX6_quarrelsOnTheWay_33 rfl ?_
    refine V_aloadn (pc := 34) dX6_quarrelsOnTheWay_34 rfl ?_
    refine V_getr (pc := 35) dX6_quarrelsOnTheWay_35 fX6_21 (PostsAt_k ho) (PostsAt_z0 ho) ?_
    refine V_iloadn (pc := 38) dX6_quarrelsOnTheWay_38 rfl ?_
    refine V_iload (pc := 39) dX6_quarrelsOnTheWay_39 rfl ?_
    refine V_cv2 (pc := 41) dX6_quarrelsOnTheWay_41 kX6_96 zk_32 (by decide) (Nat.le_of_ble_eq_true rfl) (s_beyondRoad LandAt_32 hL hp h3) rfl ?_
    refine V_iloadn (pc := 44) dX6_quarrelsOnTheWay_44 rfl ?_
    refine V_cv2 (pc := 45) dX6_quarrelsOnTheWay_45 kX6_93 (PostsAt_k ho) (by decide) (Nat.le_of_ble_eq_true rfl) (s_milesTold ho hL hO (by omega) ht) rfl ?_
    refine V_istore_5 (pc := 48) dX6_quarrelsOnTheWay_48 (by decide) rfl ?_
    refine V_iload (pc := 50) dX6_quarrelsOnTheWay_50 rfl ?_
    refine V_iconst (pc := 52) dX6_quarrelsOnTheWay_52 ?_
    refine V_icmp_eq (pc := 53) (tgt := 76) dX6_quarrelsOnTheWay_53 (by decide) (by omega) (by decide) (fun h53 => ?_) (fun h53 => ?_)
    · refine V_iconst (pc := 76) dX6_quarrelsOnTheWay_76 ?_
      refine V_zret hX dX6_quarrelsOnTheWay_77 rfl (by first | exact Or.inl rfl | exact Or.inr rfl | exact bi_01 _) ?_
      exact ⟨congrArg vi (by first | (exfalso; omega) | rw [bi_pos (by omega)] | rw [bi_neg (by omega)]), rfl⟩
    · refine V_iloadn (pc := 56) dX6_quarrelsOnTheWay_56 rfl ?_
      refine V_iload (pc := 57) dX6_quarrelsOnTheWay_57 rfl ?_
      refine V_isub (pc := 59) dX6_quarrelsOnTheWay_59 ?_
      refine V_aloadn (pc := 60) dX6_quarrelsOnTheWay_60 rfl ?_
      refine V_getr (pc := 61) dX6_quarrelsOnTheWay_61 fX6_21 (PostsAt_k ho) (PostsAt_z0 ho) ?_
      refine V_iload (pc := 64) dX6_quarrelsOnTheWay_64 rfl ?_
      refine V_cv1 (pc := 66) dX6_quarrelsOnTheWay_66 kX6_99 zk_32 (by decide) (Nat.le_of_ble_eq_true rfl) (s_roadMiles LandAt_32 hL h3) rfl ?_
      refine V_icmp_eq (pc := 69) (tgt := 76) dX6_quarrelsOnTheWay_69 (by decide) (by omega) (by omega) (fun h69 => ?_) (fun h69 => ?_)
      · refine V_iconst (pc := 76) dX6_quarrelsOnTheWay_76 ?_
        refine V_zret hX dX6_quarrelsOnTheWay_77 rfl (by first | exact Or.inl rfl | exact Or.inr rfl | exact bi_01 _) ?_
        exact ⟨congrArg vi (by first | (exfalso; omega) | rw [bi_pos (by omega)] | rw [bi_neg (by omega)]), rfl⟩
      · refine V_iconst (pc := 72) dX6_quarrelsOnTheWay_72 ?_
        refine V_goto (pc := 73) (tgt := 77) dX6_quarrelsOnTheWay_73 (by decide) ?_
        refine V_zret hX dX6_quarrelsOnTheWay_77 rfl (by first | exact Or.inl rfl | exact Or.inr rfl | exact bi_01 _) ?_
        exact ⟨congrArg vi (by first | (exfalso; omega) | rw [bi_pos (by omega)] | rw [bi_neg (by omega)]), rfl⟩
  · refine V_iconst (pc := 12) dX6_quarrelsOnTheWay_12 ?_
    refine V_zret hX dX6_quarrelsOnTheWay_13 rfl (by first | exact Or.inl rfl | exact Or.inr rfl | exact bi_01 _) ?_
    exact ⟨congrArg vi (by first | (exfalso; omega) | rw [bi_pos (by omega)] | rw [bi_neg (by omega)]), rfl⟩

set_option maxRecDepth 20000 in
theorem s_turnFurther {μ : Mem} {o : Nat} (ho : PostsAt o) (hL : LOK μ 32) (hO : POK μ o) {p k : Int} (hp : 0 ≤ p ∧ p < μ 32 0) (hs : 0 < gSd μ 32 p) (hk : 0 ≤ k ∧ k ≤ 100) : SP mX6_turnFurther [vr o, vi p, vi k] μ (fun w m => w = un ∧ m = mu μ (o + 2) p.toNat ((μ (o + 2) p.toNat + k) % gSd μ 32 p)) := by
  refine SP_intro (ls := [vr o, vi p, vi k]) (by decide +kernel) rfl rfl (Nat.le_of_ble_eq_true rfl) rfl (fun X hX => ?_)
  obtain ⟨hL0, hL1, hL2, hL3, hL4⟩ := id hL
  have h1 := gSd_rg hL p
  have h2 := hO.1 p.toNat
  refine V_aloadn (pc := 0) dX6_turnFurther_0 rfl ?_
  refine V_getr (pc := 1) dX6_turnFurther_1 fX6_21 (PostsAt_k ho) (PostsAt_z0 ho) ?_
  refine V_iloadn (pc := 4) dX6_turnFurther_4 rfl ?_
  refine V_cv1 (pc := 5) dX6_turnFurther_5 kX6_41 zk_32 (by decide) (Nat.le_of_ble_eq_true rfl) (s_hasPlace LandAt_32 hL (by omega)) rfl ?_
  refine V_ifeq_b (pc := 8) (tgt := 47) dX6_turnFurther_8 (by decide) (fun h8 => ?_) (fun h8 => ?_)
  · exfalso; omega
  · refine V_aloadn (pc := 11) dX6_turnFurther_11 rfl ?_
    refine V_getr (pc := 12) dX6_turnFurther_12 fX6_21 (PostsAt_k ho) (PostsAt_z0 ho) ?_
    refine V_iloadn (pc := 15) dX6_turnFurther_15 rfl ?_
    refine V_cv1 (pc := 16) dX6_turnFurther_16 kX6_66 zk_32 (by decide) (Nat.le_of_ble_eq_true rfl) (s_sidesOf LandAt_32 hL (by omega)) rfl ?_
    refine V_if_le (pc := 19) (tgt := 47) dX6_turnFurther_19 (by decide) (by omega) (fun h19 => ?_) (fun h19 => ?_)
    · exfalso; omega
    · refine V_aloadn (pc := 22) dX6_turnFurther_22 rfl ?_
      refine V_getr (pc := 23) dX6_turnFurther_23 fX6_9 (PostsAt_k ho) (PostsAt_z1 ho) ?_
      refine V_iloadn (pc := 26) dX6_turnFurther_26 rfl ?_
      refine V_aloadn (pc := 27) dX6_turnFurther_27 rfl ?_
      refine V_getr (pc := 28) dX6_turnFurther_28 fX6_9 (PostsAt_k ho) (PostsAt_z1 ho) ?_
      refine V_iloadn (pc := 31) dX6_turnFurther_31 rfl ?_
      refine V_iald (pc := 32) dX6_turnFurther_32 (PostsAt_a1 ho) (by omega) (by omega) (by decide) ?_
      refine V_iloadn (pc := 33) dX6_turnFurther_33 rfl ?_
      refine V_iadd (pc := 34) dX6_turnFurther_34 ?_
      refine V_aloadn (pc := 35) dX6_turnFurther_35 rfl ?_
      refine V_getr (pc := 36) dX6_turnFurther_36 fX6_21 (PostsAt_k ho) (PostsAt_z0 ho) ?_
      refine V_iloadn (pc := 39) dX6_turnFurther_39 rfl ?_
      refine V_cv1 (pc := 40) dX6_turnFurther_40 kX6_66 zk_32 (by decide) (Nat.le_of_ble_eq_true rfl) (s_sidesOf LandAt_32 hL (by omega)) rfl ?_
      refine V_cs2 (pc := 43) dX6_turnFurther_43 kX6_69 (by decide) (Nat.le_of_ble_eq_true rfl) (s_floorMod (by omega) (by omega) (by omega)) rfl ?_
      refine V_iast (pc := 46) dX6_turnFurther_46 (PostsAt_a1 ho) (by omega) (by omega) (by decide) ?_
      refine V_vret (x := 0) hX dX6_turnFurther_47 rfl ?_
      exact ⟨rfl, rfl⟩

set_option maxRecDepth 20000 in
theorem s_tellMiles {μ : Mem} {o : Nat} (ho : PostsAt o) (hL : LOK μ 32) (hO : POK μ o) {p t k : Int} (hp : 0 ≤ p ∧ p < μ 32 0) (ht : 0 ≤ t ∧ t < μ 32 0) : SP mX6_tellMiles [vr o, vi p, vi t, vi k] μ (fun w m => w = un ∧ m = mu μ (o + 4) (p * 9 + t).toNat k) := by
  refine SP_intro (ls := [vr o, vi p, vi t, vi k]) (by decide +kernel) rfl rfl (Nat.le_of_ble_eq_true rfl) rfl (fun X hX => ?_)
  obtain ⟨hL0, hL1, hL2, hL3, hL4⟩ := id hL
  refine V_aloadn (pc := 0) dX6_tellMiles_0 rfl ?_
  refine V_getr (pc := 1) dX6_tellMiles_1 fX6_21 (PostsAt_k ho) (PostsAt_z0 ho) ?_
  refine V_iloadn (pc := 4) dX6_tellMiles_4 rfl ?_
  refine V_cv1 (pc := 5) dX6_tellMiles_5 kX6_41 zk_32 (by decide) (Nat.le_of_ble_eq_true rfl) (s_hasPlace LandAt_32 hL (by omega)) rfl ?_
  refine V_ifeq_b (pc := 8) (tgt := 34) dX6_tellMiles_8 (by decide) (fun h8 => ?_) (fun h8 => ?_)
  · exfalso; omega
  · refine V_aloadn (pc := 11) dX6_tellMiles_11 rfl ?_
    refine V_getr (pc := 12) dX6_tellMiles_12 fX6_21 (PostsAt_k ho) (PostsAt_z0 ho) ?_
    refine V_iloadn (pc := 15) dX6_tellMiles_15 rfl ?_
    refine V_cv1 (pc := 16) dX6_tellMiles_16 kX6_41 zk_32 (by decide) (Nat.le_of_ble_eq_true rfl) (s_hasPlace LandAt_32 hL (by omega)) rfl ?_
    refine V_ifeq_b (pc := 19) (tgt := 34) dX6_tellMiles_19 (by decide) (fun h19 => ?_) (fun h19 => ?_)
    · exfalso; omega
    · refine V_aloadn (pc := 22) dX6_tellMiles_22 rfl ?_
      refine V_getr (pc := 23) dX6_tellMiles_23 fX6_18 (PostsAt_k ho) (PostsAt_z3 ho) ?_
      refine V_iloadn (pc := 26) dX6_tellMiles_26 rfl ?_
      refine V_bipush (pc := 27) dX6_tellMiles_27 (by decide +kernel) ?_
      refine V_imul (pc := 29) dX6_tellMiles_29 ?_
      refine V_iloadn (pc := 30) dX6_tellMiles_30 rfl ?_
      refine V_iadd (pc := 31) dX6_tellMiles_31 ?_
      refine V_iloadn (pc := 32) dX6_tellMiles_32 rfl ?_
      refine V_iast (pc := 33) dX6_tellMiles_33 (PostsAt_a3 ho) (by omega) (by omega) (by decide) ?_
      refine V_vret (x := 0) hX dX6_tellMiles_34 rfl ?_
      exact ⟨rfl, rfl⟩

set_option maxRecDepth 20000 in
theorem s_setFallen {μ : Mem} {o : Nat} (ho : PostsAt o) (hL : LOK μ 32) (hO : POK μ o) {p a b : Int} (hp : 0 ≤ p ∧ p < μ 32 0) (ha : 0 ≤ a ∧ a < μ (32 + 10) p.toNat) (hb2 : b = 0 ∨ b = 1) : SP mX6_setFallen [vr o, vi p, vi a, vi b] μ (fun w m => w = un ∧ m = mu μ (o + 3) p.toNat (if b = 0 then iand (μ (o + 3) p.toNat) (ixor (ishl 1 a) (-1)) else iorr (μ (o + 3) p.toNat) (ishl 1 a))) := by
  refine SP_intro (ls := [vr o, vi p, vi a, vi b]) (by decide +kernel) rfl rfl (Nat.le_of_ble_eq_true rfl) rfl (fun X hX => ?_)
  obtain ⟨hL0, hL1, hL2, hL3, hL4⟩ := id hL
  have h1 := hL3 p.toNat
  have h2 := hO.2.1 p.toNat
  refine V_aloadn (pc := 0) dX6_setFallen_0 rfl ?_
  refine V_getr (pc := 1) dX6_setFallen_1 fX6_21 (PostsAt_k ho) (PostsAt_z0 ho) ?_
  refine V_iloadn (pc := 4) dX6_setFallen_4 rfl ?_
  refine V_cv1 (pc := 5) dX6_setFallen_5 kX6_41 zk_32 (by decide) (Nat.le_of_ble_eq_true rfl) (s_hasPlace LandAt_32 hL (by omega)) rfl ?_
  refine V_ifeq_b (pc := 8) (tgt := 58) dX6_setFallen_8 (by decide) (fun h8 => ?_) (fun h8 => ?_)
  · exfalso; omega
  · refine V_aloadn (pc := 11) dX6_setFallen_11 rfl ?_
    refine V_getr (pc := 12) dX6_setFallen_12 fX6_21 (PostsAt_k ho) (PostsAt_z0 ho) ?_
    refine V_iloadn (pc := 15) dX6_setFallen_15 rfl ?_
    refine V_iloadn (pc := 16) dX6_setFallen_16 rfl ?_
    refine V_cv2 (pc := 17) dX6_setFallen_17 kX6_74 zk_32 (by decide) (Nat.le_of_ble_eq_true rfl) (s_hasSide LandAt_32 hL (by omega) (by omega)) rfl ?_
    refine V_ifeq_b (pc := 20) (tgt := 58) dX6_setFallen_20 (by decide) (fun h20 => ?_) (fun h20 => ?_)
    · exfalso; omega
    · refine V_aloadn (pc := 23) dX6_setFallen_23 rfl ?_
      refine V_getr (pc := 24) dX6_setFallen_24 fX6_15 (PostsAt_k ho) (PostsAt_z2 ho) ?_
      refine V_iloadn (pc := 27) dX6_setFallen_27 rfl ?_
      refine V_iloadn (pc := 28) dX6_setFallen_28 rfl ?_
      refine V_if_eq (pc := 29) (tgt := 45) dX6_setFallen_29 (by decide) (by omega) (fun h29 => ?_) (fun h29 => ?_)
      · refine V_aloadn (pc := 45) dX6_setFallen_45 rfl ?_
        refine V_getr (pc := 46) dX6_setFallen_46 fX6_15 (PostsAt_k ho) (PostsAt_z2 ho) ?_
        refine V_iloadn (pc := 49) dX6_setFallen_49 rfl ?_
        refine V_iald (pc := 50) dX6_setFallen_50 (PostsAt_a2 ho) (by omega) (by omega) (by decide) ?_
        refine V_iconst (pc := 51) dX6_setFallen_51 ?_
        refine V_iloadn (pc := 52) dX6_setFallen_52 rfl ?_
        refine V_ishl (pc := 53) dX6_setFallen_53 ?_
        refine V_iconst (pc := 54) dX6_setFallen_54 ?_
        refine V_ixor (pc := 55) dX6_setFallen_55 ?_
        refine V_iand (pc := 56) dX6_setFallen_56 ?_
        refine V_iast (pc := 57) dX6_setFallen_57 (PostsAt_a2 ho) (by omega) (by omega) (by decide) ?_
        refine V_vret (x := 0) hX dX6_setFallen_58 rfl ?_
        exact ⟨rfl, by first | rw [if_pos (by omega)] | rw [if_neg (by omega)]⟩
      · refine V_aloadn (pc := 32) dX6_setFallen_32 rfl ?_
        refine V_getr (pc := 33) dX6_setFallen_33 fX6_15 (PostsAt_k ho) (PostsAt_z2 ho) ?_
        refine V_iloadn (pc := 36) dX6_setFallen_36 rfl ?_
        refine V_iald (pc := 37) dX6_setFallen_37 (PostsAt_a2 ho) (by omega) (by omega) (by decide) ?_
        refine V_iconst (pc := 38) dX6_setFallen_38 ?_
        refine V_iloadn (pc := 39) dX6_setFallen_39 rfl ?_
        refine V_ishl (pc := 40) dX6_setFallen_40 ?_
        refine V_ior (pc := 41) dX6_setFallen_41 ?_
        refine V_goto (pc := 42) (tgt := 57) dX6_setFallen_42 (by decide) ?_
        refine V_iast (pc := 57) dX6_setFallen_57 (PostsAt_a2 ho) (by omega) (by omega) (by decide) ?_
        refine V_vret (x := 0) hX dX6_setFallen_58 rfl ?_
        exact ⟨rfl, by first | rw [if_pos (by omega)] | rw [if_neg (by omega)]⟩


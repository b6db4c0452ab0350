set_option maxRecDepth 20000 in
theorem s_isIn {μ : Mem} {s k : Int} (hs : inR s) (hk : inR k) : SP mX11_isIn [vi s, vi k] μ (fun w m => w = vi (bi (0 ≤ k ∧ k < 31 ∧ ¬ hb s k = 0)) ∧ m = μ) := by
  refine SP_intro (ls := [vi s, vi k]) (by decide +kernel) rfl rfl (Nat.le_of_ble_eq_true rfl) rfl (fun X hX => ?_)
  refine V_iloadn (pc := 0) dX11_isIn_0 rfl ?_
  refine V_if_lt (pc := 1) (tgt := 22) dX11_isIn_1 (by decide) (by omega) (fun h1 => ?_) (fun h1 => ?_)
  · refine V_iconst (pc := 22) dX11_isIn_22 ?_
    refine V_zret hX dX11_isIn_23 rfl (by first | exact Or.inl rfl | exact Or.inr rfl | exact bi_01 _) ?_
    exact ⟨congrArg vi (by first | (exfalso; omega) | rw [bi_pos (by omega)] | rw [bi_neg (by omega)]), rfl⟩
  · refine V_iloadn (pc := 4) dX11_isIn_4 rfl ?_
    refine V_bipush (pc := 5) dX11_isIn_5 (by decide +kernel) ?_
    refine V_icmp_ge (pc := 7) (tgt := 22) dX11_isIn_7 (by decide) (by omega) (by decide) (fun h7 => ?_) (fun h7 => ?_)
    · refine V_iconst (pc := 22) dX11_isIn_22 ?_
      refine V_zret hX dX11_isIn_23 rfl (by first | exact Or.inl rfl | exact Or.inr rfl | exact bi_01 _) ?_
      exact ⟨congrArg vi (by first | (exfalso; omega) | rw [bi_pos (by omega)] | rw [bi_neg (by omega)]), rfl⟩
    · refine V_iloadn (pc := 10) dX11_isIn_10 rfl ?_
      refine V_iloadn (pc := 11) dX11_isIn_11 rfl ?_
      refine V_ishr (pc := 12) dX11_isIn_12 ?_
      refine V_iconst (pc := 13) dX11_isIn_13 ?_
      refine V_iand (pc := 14) dX11_isIn_14 ?_
      change V X mX11_isIn (14 + 1) [vi s, vi k] [vi (hb s k)] μ
      have hg : inR (hb s k) := zi_rg _
      refine V_if_eq (pc := 15) (tgt := 22) dX11_isIn_15 (by decide) (by omega) (fun h15 => ?_) (fun h15 => ?_)
      · refine V_iconst (pc := 22) dX11_isIn_22 ?_
        refine V_zret hX dX11_isIn_23 rfl (by first | exact Or.inl rfl | exact Or.inr rfl | exact bi_01 _) ?_
        exact ⟨congrArg vi (by first | (exfalso; omega) | rw [bi_pos (by omega)] | rw [bi_neg (by omega)]), rfl⟩
      · refine V_iconst (pc := 18) dX11_isIn_18 ?_
        refine V_goto (pc := 19) (tgt := 23) dX11_isIn_19 (by decide) ?_
        refine V_zret hX dX11_isIn_23 rfl (by first | exact Or.inl rfl | exact Or.inr rfl | exact bi_01 _) ?_
        exact ⟨congrArg vi (by first | (exfalso; omega) | rw [bi_pos (by omega)] | rw [bi_neg (by omega)]), rfl⟩

/-- the text in its bounds -/
def TOK (μ : Mem) : Prop := 0 ≤ μ 16 1 ∧ μ 16 1 ≤ 400
/-- the sign at a place, -1 behind the end -/
def sg (μ : Mem) (a : Int) : Int := if 0 ≤ a ∧ a < μ 16 1 then μ 17 a.toNat else -1
set_option maxRecDepth 20000 in
theorem s_length {μ : Mem} : SP mX10_length [vr 16] μ (fun w m => w = vi (μ 16 1) ∧ m = μ) := by
  refine SP_intro (ls := [vr 16]) (by decide +kernel) rfl rfl (Nat.le_of_ble_eq_true rfl) rfl (fun X hX => ?_)
  refine V_aloadn (pc := 0) dX10_length_0 rfl ?_
  refine V_geti (r := 0) (pc := 1) dX10_length_1 fX10_15 zk_16 ?_
  refine V_iret hX dX10_length_4 rfl ?_
  exact ⟨rfl, rfl⟩

set_option maxRecDepth 20000 in
theorem s_hasRoomFor {μ : Mem} (h : TOK μ) {n : Int} (hn : inR n) : SP mX10_hasRoomFor [vr 16, vi n] μ (fun w m => w = vi (bi (n ≤ 400 - μ 16 1)) ∧ m = μ) := by
  refine SP_intro (ls := [vr 16, vi n]) (by decide +kernel) rfl rfl (Nat.le_of_ble_eq_true rfl) rfl (fun X hX => ?_)
  unfold TOK at h
  refine V_iloadn (pc := 0) dX10_hasRoomFor_0 rfl ?_
  refine V_sipush (pc := 1) dX10_hasRoomFor_1 (by decide +kernel) ?_
  refine V_aloadn (pc := 4) dX10_hasRoomFor_4 rfl ?_
  refine V_geti (r := 0) (pc := 5) dX10_hasRoomFor_5 fX10_15 zk_16 ?_
  refine V_isub (pc := 8) dX10_hasRoomFor_8 ?_
  refine V_icmp_gt (pc := 9) (tgt := 16) dX10_hasRoomFor_9 (by decide) (by omega) (by omega) (fun h9 => ?_) (fun h9 => ?_)
  · refine V_iconst (pc := 16) dX10_hasRoomFor_16 ?_
    refine V_zret hX dX10_hasRoomFor_17 rfl (by first | exact Or.inl rfl | exact Or.inr rfl | exact bi_01 _) ?_
    exact ⟨congrArg vi (by first | (exfalso; omega) | rw [bi_pos (by omega)] | rw [bi_neg (by omega)]), rfl⟩
  · refine V_iconst (pc := 12) dX10_hasRoomFor_12 ?_
    refine V_goto (pc := 13) (tgt := 17) dX10_hasRoomFor_13 (by decide) ?_
    refine V_zret hX dX10_hasRoomFor_17 rfl (by first | exact Or.inl rfl | exact Or.inr rfl | exact bi_01 _) ?_
    exact ⟨congrArg vi (by first | (exfalso; omega) | rw [bi_pos (by omega)] | rw [bi_neg (by omega)]), rfl⟩

set_option maxRecDepth 20000 in
theorem s_textAppend {μ : Mem} (h : 0 ≤ μ 16 1 ∧ μ 16 1 < 400) {x : Int} : SP mX10_append [vr 16, vi x] μ (fun w m => w = un ∧ m = mu (mu μ 17 (μ 16 1).toNat x) 16 1 (μ 16 1 + 1)) := by
  refine SP_intro (ls := [vr 16, vi x]) (by decide +kernel) rfl rfl (Nat.le_of_ble_eq_true rfl) rfl (fun X hX => ?_)
  refine V_aloadn (pc := 0) dX10_append_0 rfl ?_
  refine V_geti (r := 0) (pc := 1) dX10_append_1 fX10_15 zk_16 ?_
  refine V_if_lt (pc := 4) (tgt := 37) dX10_append_4 (by decide) (by omega) (fun h4 => ?_) (fun h4 => ?_)
  · exfalso; omega
  · refine V_aloadn (pc := 7) dX10_append_7 rfl ?_
    refine V_geti (r := 0) (pc := 8) dX10_append_8 fX10_15 zk_16 ?_
    refine V_sipush (pc := 11) dX10_append_11 (by decide +kernel) ?_
    refine V_icmp_ge (pc := 14) (tgt := 37) dX10_append_14 (by decide) (by omega) (by decide) (fun h14 => ?_) (fun h14 => ?_)
    · exfalso; omega
    · refine V_aloadn (pc := 17) dX10_append_17 rfl ?_
      refine V_getr (pc := 18) dX10_append_18 fX10_9 zk_16 zr_16_0 ?_
      refine V_aloadn (pc := 21) dX10_append_21 rfl ?_
      refine V_geti (r := 0) (pc := 22) dX10_append_22 fX10_15 zk_16 ?_
      refine V_iloadn (pc := 25) dX10_append_25 rfl ?_
      refine V_iast (pc := 26) dX10_append_26 zk_17 (by omega) (by omega) (by decide) ?_
      refine V_aloadn (pc := 27) dX10_append_27 rfl ?_
      refine V_dup_r (pc := 28) dX10_append_28 ?_
      refine V_geti (r := 0) (pc := 29) dX10_append_29 fX10_15 zk_16 ?_
      rw [mu_c (by decide : (16 : Nat) ≠ 17)]
      refine V_iconst (pc := 32) dX10_append_32 ?_
      refine V_iadd (pc := 33) dX10_append_33 ?_
      refine V_puti (pc := 34) dX10_append_34 fX10_15 zk_16 ?_
      refine V_vret (x := 0) hX dX10_append_37 rfl ?_
      exact ⟨rfl, rfl⟩

set_option maxRecDepth 20000 in
theorem s_signAt {μ : Mem} (h : TOK μ) {a : Int} (ha : inR a) : SP mX10_signAt [vr 16, vi a] μ (fun w m => w = vi (sg μ a) ∧ m = μ) := by
  refine SP_intro (ls := [vr 16, vi a]) (by decide +kernel) rfl rfl (Nat.le_of_ble_eq_true rfl) rfl (fun X hX => ?_)
  unfold TOK at h
  refine V_iloadn (pc := 0) dX10_signAt_0 rfl ?_
  refine V_if_lt (pc := 1) (tgt := 28) dX10_signAt_1 (by decide) (by omega) (fun h1 => ?_) (fun h1 => ?_)
  · refine V_iconst (pc := 28) dX10_signAt_28 ?_
    refine V_iret hX dX10_signAt_29 rfl ?_
    exact ⟨congrArg vi (by unfold sg; first | (exfalso; omega) | rw [if_pos (by omega)] | rw [if_neg (by omega)]), rfl⟩
  · refine V_iloadn (pc := 4) dX10_signAt_4 rfl ?_
    refine V_aloadn (pc := 5) dX10_signAt_5 rfl ?_
    refine V_geti (r := 0) (pc := 6) dX10_signAt_6 fX10_15 zk_16 ?_
    refine V_icmp_ge (pc := 9) (tgt := 28) dX10_signAt_9 (by decide) (by omega) (by omega) (fun h9 => ?_) (fun h9 => ?_)
    · refine V_iconst (pc := 28) dX10_signAt_28 ?_
      refine V_iret hX dX10_signAt_29 rfl ?_
      exact ⟨congrArg vi (by unfold sg; first | (exfalso; omega) | rw [if_pos (by omega)] | rw [if_neg (by omega)]), rfl⟩
    · refine V_iloadn (pc := 12) dX10_signAt_12 rfl ?_
      refine V_sipush (pc := 13) dX10_signAt_13 (by decide +kernel) ?_
      refine V_icmp_ge (pc := 16) (tgt := 28) dX10_signAt_16 (by decide) (by omega) (by decide) (fun h16 => ?_) (fun h16 => ?_)
      · refine V_iconst (pc := 28) dX10_signAt_28 ?_
        refine V_iret hX dX10_signAt_29 rfl ?_
        exact ⟨congrArg vi (by unfold sg; first | (exfalso; omega) | rw [if_pos (by omega)] | rw [if_neg (by omega)]), rfl⟩
      · refine V_aloadn (pc := 19) dX10_signAt_19 rfl ?_
        refine V_getr (pc := 20) dX10_signAt_20 fX10_9 zk_16 zr_16_0 ?_
        refine V_iloadn (pc := 23) dX10_signAt_23 rfl ?_
        refine V_iald (pc := 24) dX10_signAt_24 zk_17 (by omega) (by omega) (by decide) ?_
        refine V_goto (pc := 25) (tgt := 29) dX10_signAt_25 (by decide) ?_
        refine V_iret hX dX10_signAt_29 rfl ?_
        exact ⟨congrArg vi (by unfold sg; first | (exfalso; omega) | rw [if_pos (by omega)] | rw [if_neg (by omega)]), rfl⟩

set_option maxRecDepth 20000 in
theorem s_textClear {μ : Mem} : SP mX10_clear [vr 16] μ (fun w m => w = un ∧ m = mu μ 16 1 0) := by
  refine SP_intro (ls := [vr 16]) (by decide +kernel) rfl rfl (Nat.le_of_ble_eq_true rfl) rfl (fun X hX => ?_)
  refine V_aloadn (pc := 0) dX10_clear_0 rfl ?_
  refine V_iconst (pc := 1) dX10_clear_1 ?_
  refine V_puti (pc := 2) dX10_clear_2 fX10_15 zk_16 ?_
  refine V_vret (x := 0) hX dX10_clear_5 rfl ?_
  exact ⟨rfl, rfl⟩

set_option maxRecDepth 20000 in
theorem s_state {μ : Mem} : SP mX2_state [vr 176] μ (fun w m => w = vi (μ 176 0) ∧ m = μ) := by
  refine SP_intro (ls := [vr 176]) (by decide +kernel) rfl rfl (Nat.le_of_ble_eq_true rfl) rfl (fun X hX => ?_)
  refine V_aloadn (pc := 0) dX2_state_0 rfl ?_
  refine V_geti (r := 0) (pc := 1) dX2_state_1 fX2_9 zk_176 ?_
  refine V_iret hX dX2_state_4 rfl ?_
  exact ⟨rfl, rfl⟩

set_option maxRecDepth 20000 in
theorem s_startFrom {μ : Mem} {v : Int} : SP mX2_startFrom [vr 176, vi v] μ (fun w m => w = un ∧ m = mu μ 176 0 v) := by
  refine SP_intro (ls := [vr 176, vi v]) (by decide +kernel) rfl rfl (Nat.le_of_ble_eq_true rfl) rfl (fun X hX => ?_)
  refine V_aloadn (pc := 0) dX2_startFrom_0 rfl ?_
  refine V_iloadn (pc := 1) dX2_startFrom_1 rfl ?_
  refine V_puti (pc := 2) dX2_startFrom_2 fX2_9 zk_176 ?_
  refine V_vret (x := 0) hX dX2_startFrom_5 rfl ?_
  exact ⟨rfl, rfl⟩

set_option maxRecDepth 20000 in
theorem s_sightSize {μ : Mem} : SP mX8_size [vr 144] μ (fun w m => w = vi (μ 144 4) ∧ m = μ) := by
  refine SP_intro (ls := [vr 144]) (by decide +kernel) rfl rfl (Nat.le_of_ble_eq_true rfl) rfl (fun X hX => ?_)
  refine V_aloadn (pc := 0) dX8_size_0 rfl ?_
  refine V_geti (r := 0) (pc := 1) dX8_size_1 fX8_25 zk_144 ?_
  refine V_iret hX dX8_size_4 rfl ?_
  exact ⟨rfl, rfl⟩

set_option maxRecDepth 20000 in
theorem s_sightFull {μ : Mem} (h : 0 ≤ μ 144 4 ∧ μ 144 4 ≤ 40) : SP mX8_isFull [vr 144] μ (fun w m => w = vi (bi (40 ≤ μ 144 4)) ∧ m = μ) := by
  refine SP_intro (ls := [vr 144]) (by decide +kernel) rfl rfl (Nat.le_of_ble_eq_true rfl) rfl (fun X hX => ?_)
  refine V_aloadn (pc := 0) dX8_isFull_0 rfl ?_
  refine V_geti (r := 0) (pc := 1) dX8_isFull_1 fX8_25 zk_144 ?_
  refine V_bipush (pc := 4) dX8_isFull_4 (by decide +kernel) ?_
  refine V_icmp_lt (pc := 6) (tgt := 13) dX8_isFull_6 (by decide) (by omega) (by decide) (fun h6 => ?_) (fun h6 => ?_)
  · refine V_iconst (pc := 13) dX8_isFull_13 ?_
    refine V_zret hX dX8_isFull_14 rfl (by first | exact Or.inl rfl | exact Or.inr rfl | exact bi_01 _) ?_
    exact ⟨congrArg vi (by first | (exfalso; omega) | rw [bi_pos (by omega)] | rw [bi_neg (by omega)]), rfl⟩
  · refine V_iconst (pc := 9) dX8_isFull_9 ?_
    refine V_goto (pc := 10) (tgt := 14) dX8_isFull_10 (by decide) ?_
    refine V_zret hX dX8_isFull_14 rfl (by first | exact Or.inl rfl | exact Or.inr rfl | exact bi_01 _) ?_
    exact ⟨congrArg vi (by first | (exfalso; omega) | rw [bi_pos (by omega)] | rw [bi_neg (by omega)]), rfl⟩

set_option maxRecDepth 20000 in
theorem s_sightClear {μ : Mem} : SP mX8_clear [vr 144] μ (fun w m => w = un ∧ m = mu μ 144 4 0) := by
  refine SP_intro (ls := [vr 144]) (by decide +kernel) rfl rfl (Nat.le_of_ble_eq_true rfl) rfl (fun X hX => ?_)
  refine V_aloadn (pc := 0) dX8_clear_0 rfl ?_
  refine V_iconst (pc := 1) dX8_clear_1 ?_
  refine V_puti (pc := 2) dX8_clear_2 fX8_25 zk_144 ?_
  refine V_vret (x := 0) hX dX8_clear_5 rfl ?_
  exact ⟨rfl, rfl⟩

set_option maxRecDepth 20000 in
theorem s_sightAppend {μ : Mem} (h : 0 ≤ μ 144 4 ∧ μ 144 4 < 40) {p t q : Int} : SP mX8_append [vr 144, vi p, vi t, vi q] μ (fun w m => w = un ∧ m = mu (mu (mu (mu μ 146 (μ 144 4).toNat p) 147 (μ 144 4).toNat t) 148 (μ 144 4).toNat q) 144 4 (μ 144 4 + 1)) := by
  refine SP_intro (ls := [vr 144, vi p, vi t, vi q]) (by decide +kernel) rfl rfl (Nat.le_of_ble_eq_true rfl) rfl (fun X hX => ?_)
  refine V_aloadn (pc := 0) dX8_append_0 rfl ?_
  refine V_geti (r := 0) (pc := 1) dX8_append_1 fX8_25 zk_144 ?_
  refine V_if_lt (pc := 4) (tgt := 56) dX8_append_4 (by decide) (by omega) (fun h4 => ?_) (fun h4 => ?_)
  · exfalso; omega
  · refine V_aloadn (pc := 7) dX8_append_7 rfl ?_
    refine V_geti (r := 0) (pc := 8) dX8_append_8 fX8_25 zk_144 ?_
    refine V_bipush (pc := 11) dX8_append_11 (by decide +kernel) ?_
    refine V_icmp_ge (pc := 13) (tgt := 56) dX8_append_13 (by decide) (by omega) (by decide) (fun h13 => ?_) (fun h13 => ?_)
    · exfalso; omega
    · refine V_aloadn (pc := 16) dX8_append_16 rfl ?_
      refine V_getr (pc := 17) dX8_append_17 fX8_9 zk_144 zr_144_1 ?_
      refine V_aloadn (pc := 20) dX8_append_20 rfl ?_
      refine V_geti (r := 0) (pc := 21) dX8_append_21 fX8_25 zk_144 ?_
      refine V_iloadn (pc := 24) dX8_append_24 rfl ?_
      refine V_iast (pc := 25) dX8_append_25 zk_146 (by omega) (by omega) (by decide) ?_
      refine V_aloadn (pc := 26) dX8_append_26 rfl ?_
      refine V_getr (pc := 27) dX8_append_27 fX8_15 zk_144 zr_144_2 ?_
      refine V_aloadn (pc := 30) dX8_append_30 rfl ?_
      refine V_geti (r := 0) (pc := 31) dX8_append_31 fX8_25 zk_144 ?_
      rw [mu_c (by decide : (144 : Nat) ≠ 146)]
      refine V_iloadn (pc := 34) dX8_append_34 rfl ?_
      refine V_iast (pc := 35) dX8_append_35 zk_147 (by omega) (by omega) (by decide) ?_
      refine V_aloadn (pc := 36) dX8_append_36 rfl ?_
      refine V_getr (pc := 37) dX8_append_37 fX8_18 zk_144 zr_144_3 ?_
      refine V_aloadn (pc := 40) dX8_append_40 rfl ?_
      refine V_geti (r := 0) (pc := 41) dX8_append_41 fX8_25 zk_144 ?_
      rw [mu_c (by decide : (144 : Nat) ≠ 147)]
      rw [mu_c (by decide : (144 : Nat) ≠ 146)]
      refine V_iloadn (pc := 44) dX8_append_44 rfl ?_
      refine V_iast (pc := 45) dX8_append_45 zk_148 (by omega) (by omega) (by decide) ?_
      refine V_aloadn (pc := 46) dX8_append_46 rfl ?_
      refine V_dup_r (pc := 47) dX8_append_47 ?_
      refine V_geti (r := 0) (pc := 48) dX8_append_48 fX8_25 zk_144 ?_
      rw [mu_c (by decide : (144 : Nat) ≠ 148)]
      rw [mu_c (by decide : (144 : Nat) ≠ 147)]
      rw [mu_c (by decide : (144 : Nat) ≠ 146)]
      refine V_iconst (pc := 51) dX8_append_51 ?_
      refine V_iadd (pc := 52) dX8_append_52 ?_
      refine V_puti (pc := 53) dX8_append_53 fX8_25 zk_144 ?_
      refine V_vret (x := 0) hX dX8_append_56 rfl ?_
      exact ⟨rfl, rfl⟩

set_option maxRecDepth 20000 in
theorem s_bookSize {μ : Mem} : SP mX0_size [vr 160] μ (fun w m => w = vi (μ 160 4) ∧ m = μ) := by
  refine SP_intro (ls := [vr 160]) (by decide +kernel) rfl rfl (Nat.le_of_ble_eq_true rfl) rfl (fun X hX => ?_)
  refine V_aloadn (pc := 0) dX0_size_0 rfl ?_
  refine V_geti (r := 0) (pc := 1) dX0_size_1 fX0_24 zk_160 ?_
  refine V_iret hX dX0_size_4 rfl ?_
  exact ⟨rfl, rfl⟩

set_option maxRecDepth 20000 in
theorem s_bookFull {μ : Mem} (h : 0 ≤ μ 160 4 ∧ μ 160 4 ≤ 20) : SP mX0_isFull [vr 160] μ (fun w m => w = vi (bi (20 ≤ μ 160 4)) ∧ m = μ) := by
  refine SP_intro (ls := [vr 160]) (by decide +kernel) rfl rfl (Nat.le_of_ble_eq_true rfl) rfl (fun X hX => ?_)
  refine V_aloadn (pc := 0) dX0_isFull_0 rfl ?_
  refine V_geti (r := 0) (pc := 1) dX0_isFull_1 fX0_24 zk_160 ?_
  refine V_bipush (pc := 4) dX0_isFull_4 (by decide +kernel) ?_
  refine V_icmp_lt (pc := 6) (tgt := 13) dX0_isFull_6 (by decide) (by omega) (by decide) (fun h6 => ?_) (fun h6 => ?_)
  · refine V_iconst (pc := 13) dX0_isFull_13 ?_
    refine V_zret hX dX0_isFull_14 rfl (by first | exact Or.inl rfl | exact Or.inr rfl | exact bi_01 _) ?_
    exact ⟨congrArg vi (by first | (exfalso; omega) | rw [bi_pos (by omega)] | rw [bi_neg (by omega)]), rfl⟩
  · refine V_iconst (pc := 9) dX0_isFull_9 ?_
    refine V_goto (pc := 10) (tgt := 14) dX0_isFull_10 (by decide) ?_
    refine V_zret hX dX0_isFull_14 rfl (by first | exact Or.inl rfl | exact Or.inr rfl | exact bi_01 _) ?_
    exact ⟨congrArg vi (by first | (exfalso; omega) | rw [bi_pos (by omega)] | rw [bi_neg (by omega)]), rfl⟩

set_option maxRecDepth 20000 in
theorem s_bookClear {μ : Mem} : SP mX0_clear [vr 160] μ (fun w m => w = un ∧ m = mu μ 160 4 0) := by
  refine SP_intro (ls := [vr 160]) (by decide +kernel) rfl rfl (Nat.le_of_ble_eq_true rfl) rfl (fun X hX => ?_)
  refine V_aloadn (pc := 0) dX0_clear_0 rfl ?_
  refine V_iconst (pc := 1) dX0_clear_1 ?_
  refine V_puti (pc := 2) dX0_clear_2 fX0_24 zk_160 ?_
  refine V_vret (x := 0) hX dX0_clear_5 rfl ?_
  exact ⟨rfl, rfl⟩

set_option maxRecDepth 20000 in
theorem s_bookAppend {μ : Mem} (h : 0 ≤ μ 160 4 ∧ μ 160 4 < 20) {a t e f : Int} : SP mX0_append [vr 160, vi a, vi t, vi e, vi f] μ (fun w m => w = un ∧ m = mu (mu (mu (mu (mu μ 161 (μ 160 4).toNat a) 162 (μ 160 4).toNat t) 163 (μ 160 4).toNat e) 164 (μ 160 4).toNat f) 160 4 (μ 160 4 + 1)) := by
  refine SP_intro (ls := [vr 160, vi a, vi t, vi e, vi f]) (by decide +kernel) rfl rfl (Nat.le_of_ble_eq_true rfl) rfl (fun X hX => ?_)
  refine V_aloadn (pc := 0) dX0_append_0 rfl ?_
  refine V_geti (r := 0) (pc := 1) dX0_append_1 fX0_24 zk_160 ?_
  refine V_if_lt (pc := 4) (tgt := 67) dX0_append_4 (by decide) (by omega) (fun h4 => ?_) (fun h4 => ?_)
  · exfalso; omega
  · refine V_aloadn (pc := 7) dX0_append_7 rfl ?_
    refine V_geti (r := 0) (pc := 8) dX0_append_8 fX0_24 zk_160 ?_
    refine V_bipush (pc := 11) dX0_append_11 (by decide +kernel) ?_
    refine V_icmp_ge (pc := 13) (tgt := 67) dX0_append_13 (by decide) (by omega) (by decide) (fun h13 => ?_) (fun h13 => ?_)
    · exfalso; omega
    · refine V_aloadn (pc := 16) dX0_append_16 rfl ?_
      refine V_getr (pc := 17) dX0_append_17 fX0_9 zk_160 zr_160_0 ?_
      refine V_aloadn (pc := 20) dX0_append_20 rfl ?_
      refine V_geti (r := 0) (pc := 21) dX0_append_21 fX0_24 zk_160 ?_
      refine V_iloadn (pc := 24) dX0_append_24 rfl ?_
      refine V_iast (pc := 25) dX0_append_25 zk_161 (by omega) (by omega) (by decide) ?_
      refine V_aloadn (pc := 26) dX0_append_26 rfl ?_
      refine V_getr (pc := 27) dX0_append_27 fX0_15 zk_160 zr_160_1 ?_
      refine V_aloadn (pc := 30) dX0_append_30 rfl ?_
      refine V_geti (r := 0) (pc := 31) dX0_append_31 fX0_24 zk_160 ?_
      rw [mu_c (by decide : (160 : Nat) ≠ 161)]
      refine V_iloadn (pc := 34) dX0_append_34 rfl ?_
      refine V_iast (pc := 35) dX0_append_35 zk_162 (by omega) (by omega) (by decide) ?_
      refine V_aloadn (pc := 36) dX0_append_36 rfl ?_
      refine V_getr (pc := 37) dX0_append_37 fX0_18 zk_160 zr_160_2 ?_
      refine V_aloadn (pc := 40) dX0_append_40 rfl ?_
      refine V_geti (r := 0) (pc := 41) dX0_append_41 fX0_24 zk_160 ?_
      rw [mu_c (by decide : (160 : Nat) ≠ 162)]
      rw [mu_c (by decide : (160 : Nat) ≠ 161)]
      refine V_iloadn (pc := 44) dX0_append_44 rfl ?_
      refine V_iast (pc := 45) dX0_append_45 zk_163 (by omega) (by omega) (by decide) ?_
      refine V_aloadn (pc := 46) dX0_append_46 rfl ?_
      refine V_getr (pc := 47) dX0_append_47 fX0_21 zk_160 zr_160_3 ?_
      refine V_aloadn (pc := 50) dX0_append_50 rfl ?_
      refine V_geti (r := 0) (pc := 51) dX0_append_51 fX0_24 zk_160 ?_
      rw [mu_c (by decide : (160 : Nat) ≠ 163)]
      rw [mu_c (by decide : (160 : Nat) ≠ 162)]
      rw [mu_c (by decide : (160 : Nat) ≠ 161)]
      refine V_iload (pc := 54) dX0_append_54 rfl ?_
      refine V_iast (pc := 56) dX0_append_56 zk_164 (by omega) (by omega) (by decide) ?_
      refine V_aloadn (pc := 57) dX0_append_57 rfl ?_
      refine V_dup_r (pc := 58) dX0_append_58 ?_
      refine V_geti (r := 0) (pc := 59) dX0_append_59 fX0_24 zk_160 ?_
      rw [mu_c (by decide : (160 : Nat) ≠ 164)]
      rw [mu_c (by decide : (160 : Nat) ≠ 163)]
      rw [mu_c (by decide : (160 : Nat) ≠ 162)]
      rw [mu_c (by decide : (160 : Nat) ≠ 161)]
      refine V_iconst (pc := 62) dX0_append_62 ?_
      refine V_iadd (pc := 63) dX0_append_63 ?_
      refine V_puti (pc := 64) dX0_append_64 fX0_24 zk_160 ?_
      refine V_vret (x := 0) hX dX0_append_67 rfl ?_
      exact ⟨rfl, rfl⟩

set_option maxRecDepth 20000 in
theorem s_ending {μ : Mem} : SP mX9_ending [vr 96] μ (fun w m => w = vi (μ 96 5) ∧ m = μ) := by
  refine SP_intro (ls := [vr 96]) (by decide +kernel) rfl rfl (Nat.le_of_ble_eq_true rfl) rfl (fun X hX => ?_)
  refine V_aloadn (pc := 0) dX9_ending_0 rfl ?_
  refine V_geti (r := 0) (pc := 1) dX9_ending_1 fX9_23 zk_96 ?_
  refine V_iret hX dX9_ending_4 rfl ?_
  exact ⟨rfl, rfl⟩

set_option maxRecDepth 20000 in
theorem s_milesGone {μ : Mem} : SP mX9_milesGone [vr 96] μ (fun w m => w = vi (μ 96 4) ∧ m = μ) := by
  refine SP_intro (ls := [vr 96]) (by decide +kernel) rfl rfl (Nat.le_of_ble_eq_true rfl) rfl (fun X hX => ?_)
  refine V_aloadn (pc := 0) dX9_milesGone_0 rfl ?_
  refine V_geti (r := 0) (pc := 1) dX9_milesGone_1 fX9_27 zk_96 ?_
  refine V_iret hX dX9_milesGone_4 rfl ?_
  exact ⟨rfl, rfl⟩

set_option maxRecDepth 20000 in
theorem s_roadsGone {μ : Mem} : SP mX9_roadsGone [vr 96] μ (fun w m => w = vi (μ 96 3) ∧ m = μ) := by
  refine SP_intro (ls := [vr 96]) (by decide +kernel) rfl rfl (Nat.le_of_ble_eq_true rfl) rfl (fun X hX => ?_)
  refine V_aloadn (pc := 0) dX9_roadsGone_0 rfl ?_
  refine V_geti (r := 0) (pc := 1) dX9_roadsGone_1 fX9_30 zk_96 ?_
  refine V_iret hX dX9_roadsGone_4 rfl ?_
  exact ⟨rfl, rfl⟩

def gWay (μ : Mem) (i : Int) : Int := if 0 ≤ i ∧ i ≤ μ 96 3 then μ 99 i.toNat else -1
set_option maxRecDepth 20000 in
theorem s_placeBehind {μ : Mem} (h : 0 ≤ μ 96 3 ∧ μ 96 3 ≤ 9) {i : Int} (hi : inR i) : SP mX9_placeBehind [vr 96, vi i] μ (fun w m => w = vi (gWay μ i) ∧ m = μ) := by
  refine SP_intro (ls := [vr 96, vi i]) (by decide +kernel) rfl rfl (Nat.le_of_ble_eq_true rfl) rfl (fun X hX => ?_)
  refine V_iloadn (pc := 0) dX9_placeBehind_0 rfl ?_
  refine V_if_lt (pc := 1) (tgt := 27) dX9_placeBehind_1 (by decide) (by omega) (fun h1 => ?_) (fun h1 => ?_)
  · refine V_iconst (pc := 27) dX9_placeBehind_27 ?_
    refine V_iret hX dX9_placeBehind_28 rfl ?_
    exact ⟨congrArg vi (by unfold gWay; first | (exfalso; omega) | rw [if_pos (by omega)] | rw [if_neg (by omega)]), rfl⟩
  · refine V_iloadn (pc := 4) dX9_placeBehind_4 rfl ?_
    refine V_aloadn (pc := 5) dX9_placeBehind_5 rfl ?_
    refine V_geti (r := 0) (pc := 6) dX9_placeBehind_6 fX9_30 zk_96 ?_
    refine V_icmp_gt (pc := 9) (tgt := 27) dX9_placeBehind_9 (by decide) (by omega) (by omega) (fun h9 => ?_) (fun h9 => ?_)
    · refine V_iconst (pc := 27) dX9_placeBehind_27 ?_
      refine V_iret hX dX9_placeBehind_28 rfl ?_
      exact ⟨congrArg vi (by unfold gWay; first | (exfalso; omega) | rw [if_pos (by omega)] | rw [if_neg (by omega)]), rfl⟩
    · refine V_iloadn (pc := 12) dX9_placeBehind_12 rfl ?_
      refine V_bipush (pc := 13) dX9_placeBehind_13 (by decide +kernel) ?_
      refine V_icmp_gt (pc := 15) (tgt := 27) dX9_placeBehind_15 (by decide) (by omega) (by decide) (fun h15 => ?_) (fun h15 => ?_)
      · refine V_iconst (pc := 27) dX9_placeBehind_27 ?_
        refine V_iret hX dX9_placeBehind_28 rfl ?_
        exact ⟨congrArg vi (by unfold gWay; first | (exfalso; omega) | rw [if_pos (by omega)] | rw [if_neg (by omega)]), rfl⟩
      · refine V_aloadn (pc := 18) dX9_placeBehind_18 rfl ?_
        refine V_getr (pc := 19) dX9_placeBehind_19 fX9_9 zk_96 zr_96_2 ?_
        refine V_iloadn (pc := 22) dX9_placeBehind_22 rfl ?_
        refine V_iald (pc := 23) dX9_placeBehind_23 zk_99 (by omega) (by omega) (by decide) ?_
        refine V_goto (pc := 24) (tgt := 28) dX9_placeBehind_24 (by decide) ?_
        refine V_iret hX dX9_placeBehind_28 rfl ?_
        exact ⟨congrArg vi (by unfold gWay; first | (exfalso; omega) | rw [if_pos (by omega)] | rw [if_neg (by omega)]), rfl⟩

set_option maxRecDepth 20000 in
theorem s_isKept1 {μ : Mem} (h : μ 192 2 = 0 ∨ μ 192 2 = 1) : SP mX3_isKept [vr 192] μ (fun w m => w = vi (μ 192 2) ∧ m = μ) := by
  refine SP_intro (ls := [vr 192]) (by decide +kernel) rfl rfl (Nat.le_of_ble_eq_true rfl) rfl (fun X hX => ?_)
  refine V_aloadn (pc := 0) dX3_isKept_0 rfl ?_
  refine V_getz (r := 0) (pc := 1) dX3_isKept_1 fX3_18 zk_192 ?_
  refine V_zret hX dX3_isKept_4 rfl h ?_
  exact ⟨rfl, rfl⟩

set_option maxRecDepth 20000 in
theorem s_drop1 {μ : Mem} : SP mX3_drop [vr 192] μ (fun w m => w = un ∧ m = mu μ 192 2 0) := by
  refine SP_intro (ls := [vr 192]) (by decide +kernel) rfl rfl (Nat.le_of_ble_eq_true rfl) rfl (fun X hX => ?_)
  refine V_aloadn (pc := 0) dX3_drop_0 rfl ?_
  refine V_iconst (pc := 1) dX3_drop_1 ?_
  refine V_putz (pc := 2) dX3_drop_2 fX3_18 zk_192 (by first | exact Or.inl rfl | exact Or.inr rfl) ?_
  refine V_vret (x := 0) hX dX3_drop_5 rfl ?_
  exact ⟨rfl, rfl⟩

set_option maxRecDepth 20000 in
theorem s_imageOf1 {μ : Mem} {i : Int} (hi : i = 0) : SP mX11_imageOf [vr 0, vi i] μ (fun w m => w = vr 192 ∧ m = μ) := by
  refine SP_intro (ls := [vr 0, vi i]) (by decide +kernel) rfl rfl (Nat.le_of_ble_eq_true rfl) rfl (fun X hX => ?_)
  refine V_iloadn (pc := 0) dX11_imageOf_0 rfl ?_
  refine V_if_ne (pc := 1) (tgt := 11) dX11_imageOf_1 (by decide) (by omega) (fun h1 => ?_) (fun h1 => ?_)
  · exfalso; omega
  · refine V_aloadn (pc := 4) dX11_imageOf_4 rfl ?_
    refine V_getr (pc := 5) dX11_imageOf_5 fX11_93 zk_0 zr_0_11 ?_
    refine V_goto (pc := 8) (tgt := 15) dX11_imageOf_8 (by decide) ?_
    refine V_aret hX dX11_imageOf_15 rfl ?_
    exact ⟨rfl, rfl⟩

set_option maxRecDepth 20000 in
theorem s_isKept2 {μ : Mem} (h : μ 224 2 = 0 ∨ μ 224 2 = 1) : SP mX3_isKept [vr 224] μ (fun w m => w = vi (μ 224 2) ∧ m = μ) := by
  refine SP_intro (ls := [vr 224]) (by decide +kernel) rfl rfl (Nat.le_of_ble_eq_true rfl) rfl (fun X hX => ?_)
  refine V_aloadn (pc := 0) dX3_isKept_0 rfl ?_
  refine V_getz (r := 0) (pc := 1) dX3_isKept_1 fX3_18 zk_224 ?_
  refine V_zret hX dX3_isKept_4 rfl h ?_
  exact ⟨rfl, rfl⟩

set_option maxRecDepth 20000 in
theorem s_drop2 {μ : Mem} : SP mX3_drop [vr 224] μ (fun w m => w = un ∧ m = mu μ 224 2 0) := by
  refine SP_intro (ls := [vr 224]) (by decide +kernel) rfl rfl (Nat.le_of_ble_eq_true rfl) rfl (fun X hX => ?_)
  refine V_aloadn (pc := 0) dX3_drop_0 rfl ?_
  refine V_iconst (pc := 1) dX3_drop_1 ?_
  refine V_putz (pc := 2) dX3_drop_2 fX3_18 zk_224 (by first | exact Or.inl rfl | exact Or.inr rfl) ?_
  refine V_vret (x := 0) hX dX3_drop_5 rfl ?_
  exact ⟨rfl, rfl⟩

set_option maxRecDepth 20000 in
theorem s_imageOf2 {μ : Mem} {i : Int} (hi : i = 1) : SP mX11_imageOf [vr 0, vi i] μ (fun w m => w = vr 224 ∧ m = μ) := by
  refine SP_intro (ls := [vr 0, vi i]) (by decide +kernel) rfl rfl (Nat.le_of_ble_eq_true rfl) rfl (fun X hX => ?_)
  refine V_iloadn (pc := 0) dX11_imageOf_0 rfl ?_
  refine V_if_ne (pc := 1) (tgt := 11) dX11_imageOf_1 (by decide) (by omega) (fun h1 => ?_) (fun h1 => ?_)
  · refine V_aloadn (pc := 11) dX11_imageOf_11 rfl ?_
    refine V_getr (pc := 12) dX11_imageOf_12 fX11_97 zk_0 zr_0_12 ?_
    refine V_aret hX dX11_imageOf_15 rfl ?_
    exact ⟨rfl, rfl⟩
  · exfalso; omega

set_option maxRecDepth 20000 in
theorem s_faultKind {μ : Mem} : SP mX7_faultKind [vr 64] μ (fun w m => w = vi (μ 64 3) ∧ m = μ) := by
  refine SP_intro (ls := [vr 64]) (by decide +kernel) rfl rfl (Nat.le_of_ble_eq_true rfl) rfl (fun X hX => ?_)
  refine V_aloadn (pc := 0) dX7_faultKind_0 rfl ?_
  refine V_geti (r := 0) (pc := 1) dX7_faultKind_1 fX7_23 zk_64 ?_
  refine V_iret hX dX7_faultKind_4 rfl ?_
  exact ⟨rfl, rfl⟩

set_option maxRecDepth 20000 in
theorem s_faultByte {μ : Mem} : SP mX7_faultByte [vr 64] μ (fun w m => w = vi (μ 64 4) ∧ m = μ) := by
  refine SP_intro (ls := [vr 64]) (by decide +kernel) rfl rfl (Nat.le_of_ble_eq_true rfl) rfl (fun X hX => ?_)
  refine V_aloadn (pc := 0) dX7_faultByte_0 rfl ?_
  refine V_geti (r := 0) (pc := 1) dX7_faultByte_1 fX7_9 zk_64 ?_
  refine V_iret hX dX7_faultByte_4 rfl ?_
  exact ⟨rfl, rfl⟩

set_option maxRecDepth 20000 in
theorem s_blame {μ : Mem} (h : inR (μ 64 3)) {k a : Int} : SP mX7_blame [vr 64, vi k, vi a] μ (fun w m => w = un ∧ m = if μ 64 3 = 0 then mu (mu μ 64 3 k) 64 4 a else μ) := by
  refine SP_intro (ls := [vr 64, vi k, vi a]) (by decide +kernel) rfl rfl (Nat.le_of_ble_eq_true rfl) rfl (fun X hX => ?_)
  refine V_aloadn (pc := 0) dX7_blame_0 rfl ?_
  refine V_geti (r := 0) (pc := 1) dX7_blame_1 fX7_23 zk_64 ?_
  refine V_if_ne (pc := 4) (tgt := 17) dX7_blame_4 (by decide) (by omega) (fun h4 => ?_) (fun h4 => ?_)
  · refine V_vret (x := 0) hX dX7_blame_17 rfl ?_
    exact ⟨rfl, by first | rw [if_pos (by omega)] | rw [if_neg (by omega)]⟩
  · refine V_aloadn (pc := 7) dX7_blame_7 rfl ?_
    refine V_iloadn (pc := 8) dX7_blame_8 rfl ?_
    refine V_puti (pc := 9) dX7_blame_9 fX7_23 zk_64 ?_
    refine V_aloadn (pc := 12) dX7_blame_12 rfl ?_
    refine V_iloadn (pc := 13) dX7_blame_13 rfl ?_
    refine V_puti (pc := 14) dX7_blame_14 fX7_9 zk_64 ?_
    refine V_vret (x := 0) hX dX7_blame_17 rfl ?_
    exact ⟨rfl, by first | rw [if_pos (by omega)] | rw [if_neg (by omega)]⟩

set_option maxRecDepth 20000 in
theorem s_isFigure {μ : Mem} {k : Int} (hk : inR k) : SP mX7_isFigure [vi k] μ (fun w m => w = vi (bi (48 ≤ k ∧ k ≤ 57)) ∧ m = μ) := by
  refine SP_intro (ls := [vi k]) (by decide +kernel) rfl rfl (Nat.le_of_ble_eq_true rfl) rfl (fun X hX => ?_)
  refine V_iloadn (pc := 0) dX7_isFigure_0 rfl ?_
  refine V_bipush (pc := 1) dX7_isFigure_1 (by decide +kernel) ?_
  refine V_icmp_lt (pc := 3) (tgt := 16) dX7_isFigure_3 (by decide) (by omega) (by decide) (fun h3 => ?_) (fun h3 => ?_)
  · refine V_iconst (pc := 16) dX7_isFigure_16 ?_
    refine V_zret hX dX7_isFigure_17 rfl (by first | exact Or.inl rfl | exact Or.inr rfl | exact bi_01 _) ?_
    exact ⟨congrArg vi (by first | (exfalso; omega) | rw [bi_pos (by omega)] | rw [bi_neg (by omega)]), rfl⟩
  · refine V_iloadn (pc := 6) dX7_isFigure_6 rfl ?_
    refine V_bipush (pc := 7) dX7_isFigure_7 (by decide +kernel) ?_
    refine V_icmp_gt (pc := 9) (tgt := 16) dX7_isFigure_9 (by decide) (by omega) (by decide) (fun h9 => ?_) (fun h9 => ?_)
    · refine V_iconst (pc := 16) dX7_isFigure_16 ?_
      refine V_zret hX dX7_isFigure_17 rfl (by first | exact Or.inl rfl | exact Or.inr rfl | exact bi_01 _) ?_
      exact ⟨congrArg vi (by first | (exfalso; omega) | rw [bi_pos (by omega)] | rw [bi_neg (by omega)]), rfl⟩
    · refine V_iconst (pc := 12) dX7_isFigure_12 ?_
      refine V_goto (pc := 13) (tgt := 17) dX7_isFigure_13 (by decide) ?_
      refine V_zret hX dX7_isFigure_17 rfl (by first | exact Or.inl rfl | exact Or.inr rfl | exact bi_01 _) ?_
      exact ⟨congrArg vi (by first | (exfalso; omega) | rw [bi_pos (by omega)] | rw [bi_neg (by omega)]), rfl⟩

set_option maxRecDepth 20000 in
theorem s_isLetter {μ : Mem} {k : Int} (hk : inR k) : SP mX7_isLetter [vi k] μ (fun w m => w = vi (bi (97 ≤ k ∧ k ≤ 122)) ∧ m = μ) := by
  refine SP_intro (ls := [vi k]) (by decide +kernel) rfl rfl (Nat.le_of_ble_eq_true rfl) rfl (fun X hX => ?_)
  refine V_iloadn (pc := 0) dX7_isLetter_0 rfl ?_
  refine V_bipush (pc := 1) dX7_isLetter_1 (by decide +kernel) ?_
  refine V_icmp_lt (pc := 3) (tgt := 16) dX7_isLetter_3 (by decide) (by omega) (by decide) (fun h3 => ?_) (fun h3 => ?_)
  · refine V_iconst (pc := 16) dX7_isLetter_16 ?_
    refine V_zret hX dX7_isLetter_17 rfl (by first | exact Or.inl rfl | exact Or.inr rfl | exact bi_01 _) ?_
    exact ⟨congrArg vi (by first | (exfalso; omega) | rw [bi_pos (by omega)] | rw [bi_neg (by omega)]), rfl⟩
  · refine V_iloadn (pc := 6) dX7_isLetter_6 rfl ?_
    refine V_bipush (pc := 7) dX7_isLetter_7 (by decide +kernel) ?_
    refine V_icmp_gt (pc := 9) (tgt := 16) dX7_isLetter_9 (by decide) (by omega) (by decide) (fun h9 => ?_) (fun h9 => ?_)
    · refine V_iconst (pc := 16) dX7_isLetter_16 ?_
      refine V_zret hX dX7_isLetter_17 rfl (by first | exact Or.inl rfl | exact Or.inr rfl | exact bi_01 _) ?_
      exact ⟨congrArg vi (by first | (exfalso; omega) | rw [bi_pos (by omega)] | rw [bi_neg (by omega)]), rfl⟩
    · refine V_iconst (pc := 12) dX7_isLetter_12 ?_
      refine V_goto (pc := 13) (tgt := 17) dX7_isLetter_13 (by decide) ?_
      refine V_zret hX dX7_isLetter_17 rfl (by first | exact Or.inl rfl | exact Or.inr rfl | exact bi_01 _) ?_
      exact ⟨congrArg vi (by first | (exfalso; omega) | rw [bi_pos (by omega)] | rw [bi_neg (by omega)]), rfl⟩


set_option maxRecDepth 20000 in
theorem l_keep1 {μ : Mem} (hi1 : μ 192 2 = 0 ∨ μ 192 2 = 1) {X : ZX} (hX : isM X (fun w m => w = vi (cKeep μ 0).1 ∧ m = (cKeep μ 0).2)) : V X mX11_keep 12 [vr 0, vi 0] [] μ := by
  refine V_aloadn (pc := 12) dX11_keep_12 rfl ?_
  refine V_iloadn (pc := 13) dX11_keep_13 rfl ?_
  refine V_cv1 (pc := 14) dX11_keep_14 kX11_307 zk_0 (by decide) (Nat.le_of_ble_eq_true rfl) (s_imageOf1 rfl) rfl ?_
  refine V_aloadn (pc := 17) dX11_keep_17 rfl ?_
  refine V_getr (pc := 18) dX11_keep_18 fX11_40 zk_0 zr_0_4 ?_
  refine V_aloadn (pc := 21) dX11_keep_21 rfl ?_
  refine V_getr (pc := 22) dX11_keep_22 fX11_86 zk_0 zr_0_10 ?_
  refine V_cu2 (pc := 25) dX11_keep_25 kX11_311 zk_192 (by decide) (Nat.le_of_ble_eq_true rfl) (s_take1) ?_
  refine V_iconst (pc := 28) dX11_keep_28 ?_
  refine V_iret hX dX11_keep_29 rfl ?_
  exact ⟨congrArg vi (by unfold cKeep; repeat (first | rw [if_pos (by omega)] | rw [if_neg (by omega)])), by unfold cKeep; repeat (first | rw [if_pos (by omega)] | rw [if_neg (by omega)])⟩

set_option maxRecDepth 20000 in
theorem l_keep2 {μ : Mem} (hi2 : μ 224 2 = 0 ∨ μ 224 2 = 1) {X : ZX} (hX : isM X (fun w m => w = vi (cKeep μ 1).1 ∧ m = (cKeep μ 1).2)) : V X mX11_keep 12 [vr 0, vi 1] [] μ := by
  refine V_aloadn (pc := 12) dX11_keep_12 rfl ?_
  refine V_iloadn (pc := 13) dX11_keep_13 rfl ?_
  refine V_cv1 (pc := 14) dX11_keep_14 kX11_307 zk_0 (by decide) (Nat.le_of_ble_eq_true rfl) (s_imageOf2 rfl) rfl ?_
  refine V_aloadn (pc := 17) dX11_keep_17 rfl ?_
  refine V_getr (pc := 18) dX11_keep_18 fX11_40 zk_0 zr_0_4 ?_
  refine V_aloadn (pc := 21) dX11_keep_21 rfl ?_
  refine V_getr (pc := 22) dX11_keep_22 fX11_86 zk_0 zr_0_10 ?_
  refine V_cu2 (pc := 25) dX11_keep_25 kX11_311 zk_224 (by decide) (Nat.le_of_ble_eq_true rfl) (s_take2) ?_
  refine V_iconst (pc := 28) dX11_keep_28 ?_
  refine V_iret hX dX11_keep_29 rfl ?_
  exact ⟨congrArg vi (by unfold cKeep; repeat (first | rw [if_pos (by omega)] | rw [if_neg (by omega)])), by unfold cKeep; repeat (first | rw [if_pos (by omega)] | rw [if_neg (by omega)])⟩

set_option maxRecDepth 20000 in
theorem l_goBack1 {μ : Mem} (hi1 : μ 192 2 = 0 ∨ μ 192 2 = 1) {X : ZX} (hX : isM X (fun w m => w = vi (cBack μ 0).1 ∧ m = (cBack μ 0).2)) : V X mX11_goBack 12 [vr 0, vi 0, un] [] μ := by
  refine V_aloadn (pc := 12) dX11_goBack_12 rfl ?_
  refine V_iloadn (pc := 13) dX11_goBack_13 rfl ?_
  refine V_cv1 (pc := 14) dX11_goBack_14 kX11_307 zk_0 (by decide) (Nat.le_of_ble_eq_true rfl) (s_imageOf1 rfl) rfl ?_
  refine V_astore_2 (pc := 17) dX11_goBack_17 (by decide) rfl ?_
  refine V_aloadn (pc := 18) dX11_goBack_18 rfl ?_
  refine V_cv0 (pc := 19) dX11_goBack_19 kX11_315 zk_192 (by decide) (Nat.le_of_ble_eq_true rfl) (s_isKept1 hi1) rfl ?_
  refine V_if_ne (pc := 22) (tgt := 28) dX11_goBack_22 (by decide) (by omega) (fun h22 => ?_) (fun h22 => ?_)
  · refine V_aloadn (pc := 28) dX11_goBack_28 rfl ?_
    refine V_aloadn (pc := 29) dX11_goBack_29 rfl ?_
    refine V_getr (pc := 30) dX11_goBack_30 fX11_40 zk_0 zr_0_4 ?_
    refine V_aloadn (pc := 33) dX11_goBack_33 rfl ?_
    refine V_getr (pc := 34) dX11_goBack_34 fX11_86 zk_0 zr_0_10 ?_
    refine V_cu2 (pc := 37) dX11_goBack_37 kX11_318 zk_192 (by decide) (Nat.le_of_ble_eq_true rfl) (s_giveBack1) ?_
    refine V_iconst (pc := 40) dX11_goBack_40 ?_
    refine V_iret hX dX11_goBack_41 rfl ?_
    exact ⟨congrArg vi (by unfold cBack; repeat (first | rw [if_pos (by omega)] | rw [if_neg (by omega)])), by unfold cBack; repeat (first | rw [if_pos (by omega)] | rw [if_neg (by omega)])⟩
  · refine V_ldc (pc := 25) (n := -1000000003) dX11_goBack_25 nX11_203 (by decide) ?_
    refine V_iret hX dX11_goBack_27 rfl ?_
    exact ⟨congrArg vi (by unfold cBack; repeat (first | rw [if_pos (by omega)] | rw [if_neg (by omega)])), by unfold cBack; repeat (first | rw [if_pos (by omega)] | rw [if_neg (by omega)])⟩

set_option maxRecDepth 20000 in
theorem l_goBack2 {μ : Mem} (hi2 : μ 224 2 = 0 ∨ μ 224 2 = 1) {X : ZX} (hX : isM X (fun w m => w = vi (cBack μ 1).1 ∧ m = (cBack μ 1).2)) : V X mX11_goBack 12 [vr 0, vi 1, un] [] μ := by
  refine V_aloadn (pc := 12) dX11_goBack_12 rfl ?_
  refine V_iloadn (pc := 13) dX11_goBack_13 rfl ?_
  refine V_cv1 (pc := 14) dX11_goBack_14 kX11_307 zk_0 (by decide) (Nat.le_of_ble_eq_true rfl) (s_imageOf2 rfl) rfl ?_
  refine V_astore_2 (pc := 17) dX11_goBack_17 (by decide) rfl ?_
  refine V_aloadn (pc := 18) dX11_goBack_18 rfl ?_
  refine V_cv0 (pc := 19) dX11_goBack_19 kX11_315 zk_224 (by decide) (Nat.le_of_ble_eq_true rfl) (s_isKept2 hi2) rfl ?_
  refine V_if_ne (pc := 22) (tgt := 28) dX11_goBack_22 (by decide) (by omega) (fun h22 => ?_) (fun h22 => ?_)
  · refine V_aloadn (pc := 28) dX11_goBack_28 rfl ?_
    refine V_aloadn (pc := 29) dX11_goBack_29 rfl ?_
    refine V_getr (pc := 30) dX11_goBack_30 fX11_40 zk_0 zr_0_4 ?_
    refine V_aloadn (pc := 33) dX11_goBack_33 rfl ?_
    refine V_getr (pc := 34) dX11_goBack_34 fX11_86 zk_0 zr_0_10 ?_
    refine V_cu2 (pc := 37) dX11_goBack_37 kX11_318 zk_224 (by decide) (Nat.le_of_ble_eq_true rfl) (s_giveBack2) ?_
    refine V_iconst (pc := 40) dX11_goBack_40 ?_
    refine V_iret hX dX11_goBack_41 rfl ?_
    exact ⟨congrArg vi (by unfold cBack; repeat (first | rw [if_pos (by omega)] | rw [if_neg (by omega)])), by unfold cBack; repeat (first | rw [if_pos (by omega)] | rw [if_neg (by omega)])⟩
  · refine V_ldc (pc := 25) (n := -1000000003) dX11_goBack_25 nX11_203 (by decide) ?_
    refine V_iret hX dX11_goBack_27 rfl ?_
    exact ⟨congrArg vi (by unfold cBack; repeat (first | rw [if_pos (by omega)] | rw [if_neg (by omega)])), by unfold cBack; repeat (first | rw [if_pos (by omega)] | rw [if_neg (by omega)])⟩

set_option maxRecDepth 20000 in
theorem t_keep {μ : Mem} (hC : CI μ) {i : Int} (hi : inR i) : SP mX11_keep [vr 0, vi i] μ (fun w m => w = vi (cKeep μ i).1 ∧ m = (cKeep μ i).2) := by
  refine SP_intro (ls := [vr 0, vi i]) (by decide +kernel) rfl rfl (Nat.le_of_ble_eq_true rfl) rfl (fun X hX => ?_)
  obtain ⟨hL, hO, hA, hA0, hln, hS, hB, hT, hsd, hi1, hi2⟩ := id hC
  refine V_iloadn (pc := 0) dX11_keep_0 rfl ?_
  refine V_if_lt (pc := 1) (tgt := 9) dX11_keep_1 (by decide) (by omega) (fun h1 => ?_) (fun h1 => ?_)
  · refine V_ldc (pc := 9) (n := -1000000001) dX11_keep_9 nX11_160 (by decide) ?_
    refine V_iret hX dX11_keep_11 rfl ?_
    unfold cKeep
    repeat (first | rw [if_pos (by omega)] | rw [if_neg (by omega)])
    exact ⟨rfl, rfl⟩
  · refine V_iloadn (pc := 4) dX11_keep_4 rfl ?_
    refine V_iconst (pc := 5) dX11_keep_5 ?_
    refine V_icmp_le (pc := 6) (tgt := 12) dX11_keep_6 (by decide) (by omega) (by decide) (fun h6 => ?_) (fun h6 => ?_)
    · by_cases e : i = 0
      · subst e; exact l_keep1 hi1 hX
      · obtain rfl : i = 1 := by omega
        exact l_keep2 hi2 hX
    · refine V_ldc (pc := 9) (n := -1000000001) dX11_keep_9 nX11_160 (by decide) ?_
      refine V_iret hX dX11_keep_11 rfl ?_
      unfold cKeep
      repeat (first | rw [if_pos (by omega)] | rw [if_neg (by omega)])
      exact ⟨rfl, rfl⟩

set_option maxRecDepth 20000 in
theorem t_goBack {μ : Mem} (hC : CI μ) {i : Int} (hi : inR i) : SP mX11_goBack [vr 0, vi i] μ (fun w m => w = vi (cBack μ i).1 ∧ m = (cBack μ i).2) := by
  refine SP_intro (ls := [vr 0, vi i, un]) (by decide +kernel) rfl rfl (Nat.le_of_ble_eq_true rfl) rfl (fun X hX => ?_)
  obtain ⟨hL, hO, hA, hA0, hln, hS, hB, hT, hsd, hi1, hi2⟩ := id hC
  refine V_iloadn (pc := 0) dX11_goBack_0 rfl ?_
  refine V_if_lt (pc := 1) (tgt := 9) dX11_goBack_1 (by decide) (by omega) (fun h1 => ?_) (fun h1 => ?_)
  · refine V_ldc (pc := 9) (n := -1000000001) dX11_goBack_9 nX11_160 (by decide) ?_
    refine V_iret hX dX11_goBack_11 rfl ?_
    unfold cBack
    repeat (first | rw [if_pos (by omega)] | rw [if_neg (by omega)])
    exact ⟨rfl, rfl⟩
  · refine V_iloadn (pc := 4) dX11_goBack_4 rfl ?_
    refine V_iconst (pc := 5) dX11_goBack_5 ?_
    refine V_icmp_le (pc := 6) (tgt := 12) dX11_goBack_6 (by decide) (by omega) (by decide) (fun h6 => ?_) (fun h6 => ?_)
    · by_cases e : i = 0
      · subst e; exact l_goBack1 hi1 hX
      · obtain rfl : i = 1 := by omega
        exact l_goBack2 hi2 hX
    · refine V_ldc (pc := 9) (n := -1000000001) dX11_goBack_9 nX11_160 (by decide) ?_
      refine V_iret hX dX11_goBack_11 rfl ?_
      unfold cBack
      repeat (first | rw [if_pos (by omega)] | rw [if_neg (by omega)])
      exact ⟨rfl, rfl⟩

def by8 (b k : Int) : Int := iand (l2i (lushr b (8 * k))) 255
def ap1 (m : Mem) (x : Int) : Mem := mu (mu m 17 (m 16 1).toNat x) 16 1 (m 16 1 + 1)
def feedL (b : Int) : Nat → Mem → Mem
  | 0, m => m
  | n + 1, m => feedL b n (ap1 m (by8 b n))
theorem feedL_s {b : Int} {n : Nat} {m : Mem} : feedL b (n + 1) m = feedL b n (ap1 m (by8 b n)) := rfl
theorem ap1_16 {m : Mem} {x : Int} : ap1 m x 16 1 = m 16 1 + 1 := mu_h
theorem feedL_16 {b : Int} : ∀ (n : Nat) (m : Mem), feedL b n m 16 1 = m 16 1 + n := by
  intro n
  induction n with
  | zero => intro m; simp [feedL]
  | succ n ih => intro m; rw [feedL_s, ih, ap1_16]; omega
def cFeed (μ : Mem) (n b : Int) : Int × Mem := if 1 ≤ n ∧ n ≤ 8 then (if n ≤ 400 - μ 16 1 then (μ 16 1 + n, feedL b n.toNat μ) else (-1000000004, μ)) else (-1000000002, μ)

set_option maxRecDepth 20000 in
theorem l_feed {b x : Int} {R : Mem} {X : ZX} (hX : isM X (fun w m => w = vi (R 16 1) ∧ m = R)) : ∀ (n : Nat) (k : Int) (ν : Mem), (k + 1 = n) → (0 ≤ ν 16 1 ∧ ν 16 1 + n ≤ 400) → (n ≤ 8) → (feedL b n ν = R) → V X mX11_feed 33 [vr 0, vi x, vl b, un, vi k] [] ν := by
  intro n
  induction n with
  | zero =>
    intro k ν h1 h2 hn hR
    refine V_iload (pc := 33) dX11_feed_33 rfl ?_
    refine V_if_lt (pc := 35) (tgt := 63) dX11_feed_35 (by decide) (by omega) (fun h35 => ?_) (fun h35 => ?_)
    · refine V_aloadn (pc := 63) dX11_feed_63 rfl ?_
      refine V_getr (pc := 64) dX11_feed_64 fX11_10 zk_0 zr_0_0 ?_
      refine V_cv0 (pc := 67) dX11_feed_67 kX11_110 zk_16 (by decide) (Nat.le_of_ble_eq_true rfl) (s_length) rfl ?_
      refine V_iret hX dX11_feed_70 rfl ?_
      subst hR
      exact ⟨rfl, rfl⟩
    · exfalso; omega
  | succ n ih =>
    intro k ν h1 h2 hn hR
    refine V_iload (pc := 33) dX11_feed_33 rfl ?_
    refine V_if_lt (pc := 35) (tgt := 63) dX11_feed_35 (by decide) (by omega) (fun h35 => ?_) (fun h35 => ?_)
    · exfalso; omega
    · refine V_aloadn (pc := 38) dX11_feed_38 rfl ?_
      refine V_getr (pc := 39) dX11_feed_39 fX11_10 zk_0 zr_0_0 ?_
      refine V_lloadn (pc := 42) dX11_feed_42 rfl ?_
      refine V_bipush (pc := 43) dX11_feed_43 (by decide +kernel) ?_
      refine V_iload (pc := 45) dX11_feed_45 rfl ?_
      refine V_imul (pc := 47) dX11_feed_47 ?_
      refine V_lushr (pc := 48) dX11_feed_48 ?_
      refine V_l2i (pc := 49) dX11_feed_49 ?_
      refine V_sipush (pc := 50) dX11_feed_50 (by decide +kernel) ?_
      refine V_iand (pc := 53) dX11_feed_53 ?_
      refine V_cu1 (pc := 54) dX11_feed_54 kX11_106 zk_16 (by decide) (Nat.le_of_ble_eq_true rfl) (s_textAppend (by omega)) ?_
      refine V_iinc_4 (pc := 57) dX11_feed_57 (by decide) rfl ?_
      refine V_goto (pc := 60) (tgt := 33) dX11_feed_60 (by decide) ?_
      exact ih _ _ (by omega) (by rw [mu_h]; omega) (by omega) (by rw [← hR, feedL_s]; unfold ap1 by8; rw [show k = (n : Int) by omega])

set_option maxRecDepth 20000 in
theorem t_feed {μ : Mem} (hT : TOK μ) {n b : Int} (hn : inR n) : SP mX11_feed [vr 0, vi n, vl b] μ (fun w m => w = vi (cFeed μ n b).1 ∧ m = (cFeed μ n b).2) := by
  refine SP_intro (ls := [vr 0, vi n, vl b, un, un]) (by decide +kernel) rfl rfl (Nat.le_of_ble_eq_true rfl) rfl (fun X hX => ?_)
  unfold TOK at hT
  refine V_iloadn (pc := 0) dX11_feed_0 rfl ?_
  refine V_iconst (pc := 1) dX11_feed_1 ?_
  refine V_icmp_lt (pc := 2) (tgt := 11) dX11_feed_2 (by decide) (by omega) (by decide) (fun h2 => ?_) (fun h2 => ?_)
  · refine V_ldc (pc := 11) (n := -1000000002) dX11_feed_11 nX11_100 (by decide) ?_
    refine V_iret hX dX11_feed_13 rfl ?_
    unfold cFeed
    repeat (first | rw [if_pos (by omega)] | rw [if_neg (by omega)])
    exact ⟨rfl, rfl⟩
  · refine V_iloadn (pc := 5) dX11_feed_5 rfl ?_
    refine V_bipush (pc := 6) dX11_feed_6 (by decide +kernel) ?_
    refine V_icmp_le (pc := 8) (tgt := 14) dX11_feed_8 (by decide) (by omega) (by decide) (fun h8 => ?_) (fun h8 => ?_)
    · refine V_aloadn (pc := 14) dX11_feed_14 rfl ?_
      refine V_getr (pc := 15) dX11_feed_15 fX11_10 zk_0 zr_0_0 ?_
      refine V_iloadn (pc := 18) dX11_feed_18 rfl ?_
      refine V_cv1 (pc := 19) dX11_feed_19 kX11_101 zk_16 (by decide) (Nat.le_of_ble_eq_true rfl) (s_hasRoomFor hT hn) rfl ?_
      refine V_ifne_b (pc := 22) (tgt := 28) dX11_feed_22 (by decide) (fun h22 => ?_) (fun h22 => ?_)
      · refine V_iloadn (pc := 28) dX11_feed_28 rfl ?_
        refine V_iconst (pc := 29) dX11_feed_29 ?_
        refine V_isub (pc := 30) dX11_feed_30 ?_
        refine V_istore_4 (pc := 31) dX11_feed_31 (by decide) rfl ?_
        have e : cFeed μ n b = ((feedL b n.toNat μ) 16 1, feedL b n.toNat μ) := by
          unfold cFeed; rw [if_pos (by omega), if_pos (by omega), feedL_16, show ((n.toNat : Nat) : Int) = n by omega]
        rw [e] at hX
        exact l_feed hX n.toNat _ _ (by omega) (by omega) (by omega) rfl
      · refine V_ldc (pc := 25) (n := -1000000004) dX11_feed_25 nX11_105 (by decide) ?_
        refine V_iret hX dX11_feed_27 rfl ?_
        unfold cFeed
        repeat (first | rw [if_pos (by omega)] | rw [if_neg (by omega)])
        exact ⟨rfl, rfl⟩
    · refine V_ldc (pc := 11) (n := -1000000002) dX11_feed_11 nX11_100 (by decide) ?_
      refine V_iret hX dX11_feed_13 rfl ?_
      unfold cFeed
      repeat (first | rw [if_pos (by omega)] | rw [if_neg (by omega)])
      exact ⟨rfl, rfl⟩

def cTold (μ : Mem) (u : Int) : Int := if u = 0 then μ 32 0 else if u = 1 then μ 32 1 else if u = 2 then μ 32 2 else if u = 3 then μ 16 1 else if u = 4 then μ 144 4 else if u = 5 then μ 160 4 else if u = 6 then cost μ 0 else if u = 7 then sb (fun p => ¬ pT μ 80 p = 0) (μ 32 0).toNat 0 0 else -1000000002
theorem ech_ag {μ ν : Mem} (g : Ag μ ν) (s x : Int) : ech ν s x = ech μ s x := by
  unfold ech; simp only [gFr_ag g, gTo_ag g, gFar_ag g, wkF_ag g]
theorem cst_ag {μ ν : Mem} (g : Ag μ ν) (s : Int) : ∀ (n : Nat) (x acc : Int), cst ν s n x acc = cst μ s n x acc := by
  intro n
  induction n with
  | zero => intros; rfl
  | succ n ih => intro x acc; rw [cst_s, cst_s, ih, ech_ag g, gHd_ag g]
theorem cost_ag {μ ν : Mem} (g : Ag μ ν) (s : Int) : cost ν s = cost μ s := by unfold cost; rw [cst_ag g, g 32 (by decide)]

set_option maxRecDepth 20000 in
theorem t_told {μ : Mem} (hC : CI μ) {u : Int} (hu : inR u) : SP mX11_told [vr 0, vi u] μ (fun w m => w = vi (cTold μ u) ∧ Fr μ m) := by
  refine SP_intro (ls := [vr 0, vi u]) (by decide +kernel) rfl rfl (Nat.le_of_ble_eq_true rfl) rfl (fun X hX => ?_)
  obtain ⟨hL, hO, hA, hA0, hln, hS, hB, hT, hsd, hi1, hi2⟩ := id hC
  obtain ⟨hL0, hL1, hL2, hL3, hL4⟩ := id hL
  refine V_iloadn (pc := 0) dX11_told_0 rfl ?_
  by_cases hs0 : u = 0
  · refine V_tabIn (pc := 1) (off := 47) (tgt := 48) dX11_told_1 (by omega) (by omega) (by omega) (by rw [hs0]; decide) (by decide) ?_
    refine V_aloadn (pc := 48) dX11_told_48 rfl ?_
    refine V_getr (pc := 49) dX11_told_49 fX11_19 zk_0 zr_0_1 ?_
    refine V_cv0 (pc := 52) dX11_told_52 kX11_134 zk_32 (by decide) (Nat.le_of_ble_eq_true rfl) (s_places LandAt_32) rfl ?_
    refine V_iret hX dX11_told_55 rfl ?_
    exact ⟨congrArg vi (by unfold cTold; repeat (first | rw [if_pos (by omega)] | rw [if_neg (by omega)])), Fr.rf μ⟩
  by_cases hs1 : u = 1
  · refine V_tabIn (pc := 1) (off := 55) (tgt := 56) dX11_told_1 (by omega) (by omega) (by omega) (by rw [hs1]; decide) (by decide) ?_
    refine V_aloadn (pc := 56) dX11_told_56 rfl ?_
    refine V_getr (pc := 57) dX11_told_57 fX11_19 zk_0 zr_0_1 ?_
    refine V_cv0 (pc := 60) dX11_told_60 kX11_140 zk_32 (by decide) (Nat.le_of_ble_eq_true rfl) (s_roads LandAt_32) rfl ?_
    refine V_iret hX dX11_told_63 rfl ?_
    exact ⟨congrArg vi (by unfold cTold; repeat (first | rw [if_pos (by omega)] | rw [if_neg (by omega)])), Fr.rf μ⟩
  by_cases hs2 : u = 2
  · refine V_tabIn (pc := 1) (off := 63) (tgt := 64) dX11_told_1 (by omega) (by omega) (by omega) (by rw [hs2]; decide) (by decide) ?_
    refine V_aloadn (pc := 64) dX11_told_64 rfl ?_
    refine V_getr (pc := 65) dX11_told_65 fX11_19 zk_0 zr_0_1 ?_
    refine V_cv0 (pc := 68) dX11_told_68 kX11_143 zk_32 (by decide) (Nat.le_of_ble_eq_true rfl) (s_travels LandAt_32) rfl ?_
    refine V_iret hX dX11_told_71 rfl ?_
    exact ⟨congrArg vi (by unfold cTold; repeat (first | rw [if_pos (by omega)] | rw [if_neg (by omega)])), Fr.rf μ⟩
  by_cases hs3 : u = 3
  · refine V_tabIn (pc := 1) (off := 71) (tgt := 72) dX11_told_1 (by omega) (by omega) (by omega) (by rw [hs3]; decide) (by decide) ?_
    refine V_aloadn (pc := 72) dX11_told_72 rfl ?_
    refine V_getr (pc := 73) dX11_told_73 fX11_10 zk_0 zr_0_0 ?_
    refine V_cv0 (pc := 76) dX11_told_76 kX11_110 zk_16 (by decide) (Nat.le_of_ble_eq_true rfl) (s_length) rfl ?_
    refine V_iret hX dX11_told_79 rfl ?_
    exact ⟨congrArg vi (by unfold cTold; repeat (first | rw [if_pos (by omega)] | rw [if_neg (by omega)])), Fr.rf μ⟩
  by_cases hs4 : u = 4
  · refine V_tabIn (pc := 1) (off := 79) (tgt := 80) dX11_told_1 (by omega) (by omega) (by omega) (by rw [hs4]; decide) (by decide) ?_
    refine V_aloadn (pc := 80) dX11_told_80 rfl ?_
    refine V_getr (pc := 81) dX11_told_81 fX11_72 zk_0 zr_0_8 ?_
    refine V_cv0 (pc := 84) dX11_told_84 kX11_146 zk_144 (by decide) (Nat.le_of_ble_eq_true rfl) (s_sightSize) rfl ?_
    refine V_iret hX dX11_told_87 rfl ?_
    exact ⟨congrArg vi (by unfold cTold; repeat (first | rw [if_pos (by omega)] | rw [if_neg (by omega)])), Fr.rf μ⟩
  by_cases hs5 : u = 5
  · refine V_tabIn (pc := 1) (off := 87) (tgt := 88) dX11_told_1 (by omega) (by omega) (by omega) (by rw [hs5]; decide) (by decide) ?_
    refine V_aloadn (pc := 88) dX11_told_88 rfl ?_
    refine V_getr (pc := 89) dX11_told_89 fX11_79 zk_0 zr_0_9 ?_
    refine V_cv0 (pc := 92) dX11_told_92 kX11_149 zk_160 (by decide) (Nat.le_of_ble_eq_true rfl) (s_bookSize) rfl ?_
    refine V_iret hX dX11_told_95 rfl ?_
    exact ⟨congrArg vi (by unfold cTold; repeat (first | rw [if_pos (by omega)] | rw [if_neg (by omega)])), Fr.rf μ⟩
  by_cases hs6 : u = 6
  · refine V_tabIn (pc := 1) (off := 95) (tgt := 96) dX11_told_1 (by omega) (by omega) (by omega) (by rw [hs6]; decide) (by decide) ?_
    refine V_aloadn (pc := 96) dX11_told_96 rfl ?_
    refine V_getr (pc := 97) dX11_told_97 fX11_58 zk_0 zr_0_6 ?_
    refine V_iconst (pc := 100) dX11_told_100 ?_
    refine V_cq1 (pc := 101) dX11_told_101 kX11_150 zk_112 (by decide) (Nat.le_of_ble_eq_true rfl) (s_costIfRight hL hO hA hln (by decide)) ?_
    intro w m hm
    obtain ⟨rfl, hm⟩ := hm
    show V X _ _ _ (vi (cost μ 0) :: _) m
    refine V_iret hX dX11_told_104 rfl ?_
    exact ⟨congrArg vi (by unfold cTold; repeat (first | rw [if_pos (by omega)] | rw [if_neg (by omega)])), hm⟩
  by_cases hs7 : u = 7
  · refine V_tabIn (pc := 1) (off := 104) (tgt := 105) dX11_told_1 (by omega) (by omega) (by omega) (by rw [hs7]; decide) (by decide) ?_
    refine V_aloadn (pc := 105) dX11_told_105 rfl ?_
    refine V_getr (pc := 106) dX11_told_106 fX11_40 zk_0 zr_0_4 ?_
    refine V_cv0 (pc := 109) dX11_told_109 kX11_154 zk_80 (by decide) (Nat.le_of_ble_eq_true rfl) (s_turnedSet PostsAt_80 hL hO) rfl ?_
    refine V_iret hX dX11_told_112 rfl ?_
    exact ⟨congrArg vi (by unfold cTold; repeat (first | rw [if_pos (by omega)] | rw [if_neg (by omega)])), Fr.rf μ⟩
  refine V_tabOut (pc := 1) (tgt := 113) dX11_told_1 (by omega) (by omega) (by decide) ?_
  refine V_ldc (pc := 113) (n := -1000000002) dX11_told_113 nX11_100 (by decide) ?_
  refine V_iret hX dX11_told_115 rfl ?_
  exact ⟨congrArg vi (by unfold cTold; repeat (first | rw [if_pos (by omega)] | rw [if_neg (by omega)])), Fr.rf μ⟩

theorem iand_rg {a b : Int} (ha : 0 ≤ a ∧ a < 2147483648) (hb : 0 ≤ b) : 0 ≤ iand a b ∧ iand a b ≤ a := by
  obtain ⟨n, rfl⟩ := Int.eq_ofNat_of_zero_le ha.1
  obtain ⟨m, rfl⟩ := Int.eq_ofNat_of_zero_le hb
  rw [iand_nn (by omega)]
  have : (n &&& m) ≤ n := Nat.and_le_left
  omega
theorem ishl_1 : ∀ k : Nat, k < 31 → ishl 1 (k : Int) = 2 ^ k := by decide +kernel
theorem ishl_1r {k : Int} (h : 0 ≤ k ∧ k < 31) : 1 ≤ ishl 1 k ∧ ishl 1 k ≤ 1073741824 := by
  obtain ⟨n, rfl⟩ := Int.eq_ofNat_of_zero_le h.1
  have h2 : ∀ k : Nat, k < 31 → 1 ≤ (2 : Int) ^ k ∧ (2 : Int) ^ k ≤ 1073741824 := by decide +kernel
  rw [ishl_1 n (by omega)]
  exact h2 n (by omega)
theorem fTl_rg {μ : Mem} (hL : LOK μ 32) {p : Int} (h0 : ¬ gSd μ 32 p = 0) : ∀ (n : Nat) (k s : Int), (0 ≤ s ∧ s ≤ 31) → 0 ≤ fTl μ p n k s ∧ fTl μ p n k s ≤ 31 := by
  intro n
  induction n with
  | zero => intro k s h; exact h
  | succ n ih =>
    intro k s h
    rw [fTl_s]
    apply ih
    split
    · have g1 := gSd_rg hL p
      have g2 := Int.emod_nonneg (sTw μ 32 p (μ 148 k.toNat) (gSd μ 32 p).toNat 0 - gArm μ 32 p (μ 147 k.toNat)) h0
      have g3 := Int.emod_lt_of_pos (sTw μ 32 p (μ 148 k.toNat) (gSd μ 32 p).toNat 0 - gArm μ 32 p (μ 147 k.toNat)) (show 0 < gSd μ 32 p by omega)
      have g4 := ishl_1r (k := (sTw μ 32 p (μ 148 k.toNat) (gSd μ 32 p).toNat 0 - gArm μ 32 p (μ 147 k.toNat)) % gSd μ 32 p) ⟨by omega, by omega⟩
      have g5 := iand_rg (a := s) (b := ishl 1 ((sTw μ 32 p (μ 148 k.toNat) (gSd μ 32 p).toNat 0 - gArm μ 32 p (μ 147 k.toNat)) % gSd μ 32 p)) ⟨by omega, by omega⟩ (by omega)
      omega
    · exact h
theorem fitT_rg {μ : Mem} (hL : LOK μ 32) (p : Int) : 0 ≤ fitT μ p ∧ fitT μ p ≤ 31 := by
  unfold fitT
  split
  · decide
  · rename_i h0
    have g1 := gSd_rg hL p
    refine fTl_rg hL h0 _ _ _ ?_
    have h2 : ∀ k : Nat, k < 6 → 0 ≤ ishl 1 (k : Int) - 1 ∧ ishl 1 (k : Int) - 1 ≤ 31 := by decide +kernel
    have h3 := h2 (gSd μ 32 p).toNat (by omega)
    rw [show (((gSd μ 32 p).toNat : Nat) : Int) = gSd μ 32 p by omega] at h3
    exact h3
theorem bts_rg (s : Int) : ∀ (n : Nat) (k acc : Int), inR acc → 0 ≤ acc → True := fun _ _ _ _ _ => trivial
theorem bitsF_rg : ∀ n : Nat, n < 512 → 0 ≤ bitsF (n : Int) ∧ bitsF (n : Int) ≤ 9 := by decide +kernel
theorem bitsF_rg' {s : Int} (h : 0 ≤ s ∧ s < 512) : 0 ≤ bitsF s ∧ bitsF s ≤ 9 := by
  obtain ⟨n, rfl⟩ := Int.eq_ofNat_of_zero_le h.1
  exact bitsF_rg n (by omega)

set_option maxRecDepth 20000 in
theorem l_sure {μ : Mem} (hC : CI μ) {X : ZX} {R : Int} (hX : isM X (fun w m => w = vi R ∧ m = μ)) : ∀ (n : Nat) (p acc : Int), (p + n = μ 32 0) → (0 ≤ p) → (sb (fun p => bitsF (fitT μ p) = 1) n p acc = R) → V X mX11_sure 4 [vr 0, vi acc, vi p] [] μ := by
  intro n
  induction n with
  | zero =>
    intro p acc h1 h2 hR
    obtain ⟨hL, hO, hA, hA0, hln, hS, hB, hT, hsd, hi1, hi2⟩ := id hC
    obtain ⟨hL0, hL1, hL2, hL3, hL4⟩ := id hL
    have g1 := fitT_rg hL p
    have g2 := bitsF_rg' (s := fitT μ p) (by omega)
    refine V_iloadn (pc := 4) dX11_sure_4 rfl ?_
    refine V_aloadn (pc := 5) dX11_sure_5 rfl ?_
    refine V_getr (pc := 6) dX11_sure_6 fX11_19 zk_0 zr_0_1 ?_
    refine V_cv0 (pc := 9) dX11_sure_9 kX11_134 zk_32 (by decide) (Nat.le_of_ble_eq_true rfl) (s_places LandAt_32) rfl ?_
    refine V_icmp_ge (pc := 12) (tgt := 42) dX11_sure_12 (by decide) (by omega) (by omega) (fun h12 => ?_) (fun h12 => ?_)
    · refine V_iloadn (pc := 42) dX11_sure_42 rfl ?_
      refine V_iret hX dX11_sure_43 rfl ?_
      exact ⟨congrArg vi hR, rfl⟩
    · exfalso; omega
  | succ n ih =>
    intro p acc h1 h2 hR
    obtain ⟨hL, hO, hA, hA0, hln, hS, hB, hT, hsd, hi1, hi2⟩ := id hC
    obtain ⟨hL0, hL1, hL2, hL3, hL4⟩ := id hL
    have g1 := fitT_rg hL p
    have g2 := bitsF_rg' (s := fitT μ p) (by omega)
    refine V_iloadn (pc := 4) dX11_sure_4 rfl ?_
    refine V_aloadn (pc := 5) dX11_sure_5 rfl ?_
    refine V_getr (pc := 6) dX11_sure_6 fX11_19 zk_0 zr_0_1 ?_
    refine V_cv0 (pc := 9) dX11_sure_9 kX11_134 zk_32 (by decide) (Nat.le_of_ble_eq_true rfl) (s_places LandAt_32) rfl ?_
    refine V_icmp_ge (pc := 12) (tgt := 42) dX11_sure_12 (by decide) (by omega) (by omega) (fun h12 => ?_) (fun h12 => ?_)
    · exfalso; omega
    · refine V_aloadn (pc := 15) dX11_sure_15 rfl ?_
      refine V_getr (pc := 16) dX11_sure_16 fX11_72 zk_0 zr_0_8 ?_
      refine V_iloadn (pc := 19) dX11_sure_19 rfl ?_
      refine V_cv1 (pc := 20) dX11_sure_20 kX11_258 zk_144 (by decide) (Nat.le_of_ble_eq_true rfl) (s_fitting hL hA hA0 hS (by omega)) rfl ?_
      refine V_cs1 (pc := 23) dX11_sure_23 kX11_261 (by decide) (Nat.le_of_ble_eq_true rfl) (s_bitCount (by omega)) rfl ?_
      refine V_iconst (pc := 26) dX11_sure_26 ?_
      refine V_icmp_ne (pc := 27) (tgt := 36) dX11_sure_27 (by decide) (by omega) (by decide) (fun h27 => ?_) (fun h27 => ?_)
      · refine V_iinc_2 (pc := 36) dX11_sure_36 (by decide) rfl ?_
        refine V_goto (pc := 39) (tgt := 4) dX11_sure_39 (by decide) ?_
        exact ih _ _ (by omega) (by omega) (by rw [← hR, sb_s]; first | rw [if_pos (by omega)] | rw [if_neg (by omega)])
      · refine V_iloadn (pc := 30) dX11_sure_30 rfl ?_
        refine V_iconst (pc := 31) dX11_sure_31 ?_
        refine V_iloadn (pc := 32) dX11_sure_32 rfl ?_
        refine V_ishl (pc := 33) dX11_sure_33 ?_
        refine V_ior (pc := 34) dX11_sure_34 ?_
        refine V_istore_1 (pc := 35) dX11_sure_35 (by decide) rfl ?_
        refine V_iinc_2 (pc := 36) dX11_sure_36 (by decide) rfl ?_
        refine V_goto (pc := 39) (tgt := 4) dX11_sure_39 (by decide) ?_
        exact ih _ _ (by omega) (by omega) (by rw [← hR, sb_s]; first | rw [if_pos (by omega)] | rw [if_neg (by omega)])

set_option maxRecDepth 20000 in
theorem t_sure {μ : Mem} (hC : CI μ) : SP mX11_sure [vr 0] μ (fun w m => w = vi (sb (fun p => bitsF (fitT μ p) = 1) (μ 32 0).toNat 0 0) ∧ m = μ) := by
  refine SP_intro (ls := [vr 0, un, un]) (by decide +kernel) rfl rfl (Nat.le_of_ble_eq_true rfl) rfl (fun X hX => ?_)
  obtain ⟨hL, hO, hA, hA0, hln, hS, hB, hT, hsd, hi1, hi2⟩ := id hC
  obtain ⟨hL0, hL1, hL2, hL3, hL4⟩ := id hL
  refine V_iconst (pc := 0) dX11_sure_0 ?_
  refine V_istore_1 (pc := 1) dX11_sure_1 (by decide) rfl ?_
  refine V_iconst (pc := 2) dX11_sure_2 ?_
  refine V_istore_2 (pc := 3) dX11_sure_3 (by decide) rfl ?_
  exact l_sure hC hX (μ 32 0).toNat 0 0 (by omega) (by omega) rfl

def bst (μ : Mem) : Nat → Int → Int → Int → Int × Int
  | 0, _, pl, le => (pl, le)
  | n + 1, p, pl, le => if pl = -1 ∨ cost μ (ishl 1 p) < le then bst μ n (p + 1) p (cost μ (ishl 1 p)) else bst μ n (p + 1) pl le
theorem bst_s {μ : Mem} {n : Nat} {p pl le : Int} : bst μ (n + 1) p pl le = if pl = -1 ∨ cost μ (ishl 1 p) < le then bst μ n (p + 1) p (cost μ (ishl 1 p)) else bst μ n (p + 1) pl le := rfl
def cBest (μ : Mem) (u : Int) : Int := if 0 ≤ u ∧ u ≤ 1 then (if u = 0 then (bst μ (μ 32 0).toNat 0 (-1) (-1)).1 else (bst μ (μ 32 0).toNat 0 (-1) (-1)).2) else -1000000002

set_option maxRecDepth 20000 in
theorem l_best {μ : Mem} (hC : CI μ) (hco : ∀ s, inR (cost μ s)) {u : Int} (hu : 0 ≤ u ∧ u ≤ 1) {X : ZX} {R : Int × Int} (hX : isM X (fun w m => w = vi (if u = 0 then R.1 else R.2) ∧ Fr μ m)) : ∀ (n : Nat) (p pl le : Int) (y5 : AV) (ν : Mem), (p + n = μ 32 0) → (0 ≤ p) → (inR pl) → (inR le) → (Fr μ ν) → (bst μ n p pl le = R) → V X mX11_best 19 [vr 0, vi u, vi pl, vi le, vi p, y5] [] ν := by
  intro n
  induction n with
  | zero =>
    intro p pl le y5 ν h1 h2 h3 h4 hw hR
    obtain ⟨hL, hO, hA, hA0, hln, hS, hB, hT, hsd, hi1, hi2⟩ := id hC
    obtain ⟨hL0, hL1, hL2, hL3, hL4⟩ := id hL
    have hg := hw.ag
    have hLn := LOK_ag hg hL
    have hOn := POK_ag hg hO
    have hAn : ∀ p t, gArm ν 32 p t ≤ 5 := fun p t => by rw [gArm_ag hg]; exact hA p t
    have hlnn : ∀ r, 0 ≤ gLn ν 32 r ∧ gLn ν 32 r ≤ 99 := fun r => by rw [gLn_ag hg]; exact hln r
    have e0 : ν 32 0 = μ 32 0 := by rw [hg 32 (by decide)]
    have r1 := hco (ishl 1 p)
    subst hR
    refine V_iload (pc := 19) dX11_best_19 rfl ?_
    refine V_aloadn (pc := 21) dX11_best_21 rfl ?_
    refine V_getr (pc := 22) dX11_best_22 fX11_19 zk_0 zr_0_1 ?_
    refine V_cv0 (pc := 25) dX11_best_25 kX11_134 zk_32 (by decide) (Nat.le_of_ble_eq_true rfl) (s_places LandAt_32) rfl ?_
    rw [e0]
    refine V_icmp_ge (pc := 28) (tgt := 67) dX11_best_28 (by decide) (by omega) (by omega) (fun h28 => ?_) (fun h28 => ?_)
    · refine V_iloadn (pc := 67) dX11_best_67 rfl ?_
      refine V_if_ne (pc := 68) (tgt := 75) dX11_best_68 (by decide) (by omega) (fun h68 => ?_) (fun h68 => ?_)
      · refine V_iloadn (pc := 75) dX11_best_75 rfl ?_
        refine V_iret hX dX11_best_76 rfl ?_
        exact ⟨congrArg vi (by first | exact (if_pos (show u = 0 by omega)).symm | exact (if_neg (show ¬ u = 0 by omega)).symm), hw⟩
      · refine V_iloadn (pc := 71) dX11_best_71 rfl ?_
        refine V_goto (pc := 72) (tgt := 76) dX11_best_72 (by decide) ?_
        refine V_iret hX dX11_best_76 rfl ?_
        exact ⟨congrArg vi (by first | exact (if_pos (show u = 0 by omega)).symm | exact (if_neg (show ¬ u = 0 by omega)).symm), hw⟩
    · exfalso; omega
  | succ n ih =>
    intro p pl le y5 ν h1 h2 h3 h4 hw hR
    obtain ⟨hL, hO, hA, hA0, hln, hS, hB, hT, hsd, hi1, hi2⟩ := id hC
    obtain ⟨hL0, hL1, hL2, hL3, hL4⟩ := id hL
    have hg := hw.ag
    have hLn := LOK_ag hg hL
    have hOn := POK_ag hg hO
    have hAn : ∀ p t, gArm ν 32 p t ≤ 5 := fun p t => by rw [gArm_ag hg]; exact hA p t
    have hlnn : ∀ r, 0 ≤ gLn ν 32 r ∧ gLn ν 32 r ≤ 99 := fun r => by rw [gLn_ag hg]; exact hln r
    have e0 : ν 32 0 = μ 32 0 := by rw [hg 32 (by decide)]
    have r1 := hco (ishl 1 p)
    refine V_iload (pc := 19) dX11_best_19 rfl ?_
    refine V_aloadn (pc := 21) dX11_best_21 rfl ?_
    refine V_getr (pc := 22) dX11_best_22 fX11_19 zk_0 zr_0_1 ?_
    refine V_cv0 (pc := 25) dX11_best_25 kX11_134 zk_32 (by decide) (Nat.le_of_ble_eq_true rfl) (s_places LandAt_32) rfl ?_
    rw [e0]
    refine V_icmp_ge (pc := 28) (tgt := 67) dX11_best_28 (by decide) (by omega) (by omega) (fun h28 => ?_) (fun h28 => ?_)
    · exfalso; omega
    · refine V_aloadn (pc := 31) dX11_best_31 rfl ?_
      refine V_getr (pc := 32) dX11_best_32 fX11_58 zk_0 zr_0_6 ?_
      refine V_iconst (pc := 35) dX11_best_35 ?_
      refine V_iload (pc := 36) dX11_best_36 rfl ?_
      refine V_ishl (pc := 38) dX11_best_38 ?_
      refine V_cq1 (pc := 39) dX11_best_39 kX11_150 zk_112 (by decide) (Nat.le_of_ble_eq_true rfl) (s_costIfRight hLn hOn hAn hlnn (zi_rg _)) ?_
      intro w m hm
      obtain ⟨rfl, hm⟩ := hm
      have hw2 := Fr.tr hw hm
      rw [cost_ag hg]
      show V X _ _ _ (vi (cost μ (ishl 1 p)) :: _) m
      refine V_istore_5 (pc := 42) dX11_best_42 (by decide) rfl ?_
      refine V_iloadn (pc := 44) dX11_best_44 rfl ?_
      refine V_iconst (pc := 45) dX11_best_45 ?_
      refine V_icmp_eq (pc := 46) (tgt := 55) dX11_best_46 (by decide) (by omega) (by decide) (fun h46 => ?_) (fun h46 => ?_)
      · refine V_iload (pc := 55) dX11_best_55 rfl ?_
        refine V_istore_2 (pc := 57) dX11_best_57 (by decide) rfl ?_
        refine V_iload (pc := 58) dX11_best_58 rfl ?_
        refine V_istore_3 (pc := 60) dX11_best_60 (by decide) rfl ?_
        refine V_iinc_4 (pc := 61) dX11_best_61 (by decide) rfl ?_
        refine V_goto (pc := 64) (tgt := 19) dX11_best_64 (by decide) ?_
        exact ih _ _ _ _ _ (by omega) (by omega) (by omega) (by omega) hw2 (by rw [← hR, bst_s]; first | rw [if_pos (by omega)] | rw [if_neg (by omega)])
      · refine V_iload (pc := 49) dX11_best_49 rfl ?_
        refine V_iloadn (pc := 51) dX11_best_51 rfl ?_
        refine V_icmp_ge (pc := 52) (tgt := 61) dX11_best_52 (by decide) (by omega) (by omega) (fun h52 => ?_) (fun h52 => ?_)
        · refine V_iinc_4 (pc := 61) dX11_best_61 (by decide) rfl ?_
          refine V_goto (pc := 64) (tgt := 19) dX11_best_64 (by decide) ?_
          exact ih _ _ _ _ _ (by omega) (by omega) (by omega) (by omega) hw2 (by rw [← hR, bst_s]; first | rw [if_pos (by omega)] | rw [if_neg (by omega)])
        · refine V_iload (pc := 55) dX11_best_55 rfl ?_
          refine V_istore_2 (pc := 57) dX11_best_57 (by decide) rfl ?_
          refine V_iload (pc := 58) dX11_best_58 rfl ?_
          refine V_istore_3 (pc := 60) dX11_best_60 (by decide) rfl ?_
          refine V_iinc_4 (pc := 61) dX11_best_61 (by decide) rfl ?_
          refine V_goto (pc := 64) (tgt := 19) dX11_best_64 (by decide) ?_
          exact ih _ _ _ _ _ (by omega) (by omega) (by omega) (by omega) hw2 (by rw [← hR, bst_s]; first | rw [if_pos (by omega)] | rw [if_neg (by omega)])

set_option maxRecDepth 20000 in
theorem t_best {μ : Mem} (hC : CI μ) (hco : ∀ s, inR (cost μ s)) {u : Int} (hu : inR u) : SP mX11_best [vr 0, vi u] μ (fun w m => w = vi (cBest μ u) ∧ Fr μ m) := by
  refine SP_intro (ls := [vr 0, vi u, un, un, un, un]) (by decide +kernel) rfl rfl (Nat.le_of_ble_eq_true rfl) rfl (fun X hX => ?_)
  obtain ⟨hL, hO, hA, hA0, hln, hS, hB, hT, hsd, hi1, hi2⟩ := id hC
  obtain ⟨hL0, hL1, hL2, hL3, hL4⟩ := id hL
  refine V_iloadn (pc := 0) dX11_best_0 rfl ?_
  refine V_if_lt (pc := 1) (tgt := 9) dX11_best_1 (by decide) (by omega) (fun h1 => ?_) (fun h1 => ?_)
  · refine V_ldc (pc := 9) (n := -1000000002) dX11_best_9 nX11_100 (by decide) ?_
    refine V_iret hX dX11_best_11 rfl ?_
    exact ⟨congrArg vi (by unfold cBest; rw [if_neg (by omega)]), Fr.rf μ⟩
  · refine V_iloadn (pc := 4) dX11_best_4 rfl ?_
    refine V_iconst (pc := 5) dX11_best_5 ?_
    refine V_icmp_le (pc := 6) (tgt := 12) dX11_best_6 (by decide) (by omega) (by decide) (fun h6 => ?_) (fun h6 => ?_)
    · refine V_iconst (pc := 12) dX11_best_12 ?_
      refine V_istore_2 (pc := 13) dX11_best_13 (by decide) rfl ?_
      refine V_iconst (pc := 14) dX11_best_14 ?_
      refine V_istore_3 (pc := 15) dX11_best_15 (by decide) rfl ?_
      refine V_iconst (pc := 16) dX11_best_16 ?_
      refine V_istore_4 (pc := 17) dX11_best_17 (by decide) rfl ?_
      have e : cBest μ u = if u = 0 then (bst μ (μ 32 0).toNat 0 (-1) (-1)).1 else (bst μ (μ 32 0).toNat 0 (-1) (-1)).2 := by unfold cBest; rw [if_pos (by omega)]
      rw [e] at hX
      exact l_best hC hco (by omega) hX (μ 32 0).toNat 0 (-1) (-1) _ μ (by omega) (by omega) (by decide) (by decide) (Fr.rf μ) rfl
    · refine V_ldc (pc := 9) (n := -1000000002) dX11_best_9 nX11_100 (by decide) ?_
      refine V_iret hX dX11_best_11 rfl ?_
      exact ⟨congrArg vi (by unfold cBest; rw [if_neg (by omega)]), Fr.rf μ⟩

abbrev qW (μ : Mem) (p t : Int) : Prop := ¬ mT μ 80 p t = -1 ∧ ¬ mT μ 80 p t = gFar μ 32 p t
abbrev qY (μ : Mem) (p t : Int) : Prop := ¬ mT μ 80 p t = -1 ∧ ¬ mT μ 80 (gBy μ 32 p (gRd μ 32 p (gArm μ 32 p t))) t = -1 ∧ ¬ mT μ 80 p t - mT μ 80 (gBy μ 32 p (gRd μ 32 p (gArm μ 32 p t))) t = gLn μ 32 (gRd μ 32 p (gArm μ 32 p t))
abbrev qF (μ : Mem) (b p t : Int) : Prop := (b = 0 ∧ qW μ p t) ∨ (¬ b = 0 ∧ qY μ p t)
def qT (μ : Mem) (b p : Int) : Nat → Int → Int
  | 0, _ => -1
  | n + 1, t => if qF μ b p t then 10 * p + t else qT μ b p n (t + 1)
theorem qT_s {μ : Mem} {b p : Int} {n : Nat} {t : Int} : qT μ b p (n + 1) t = if qF μ b p t then 10 * p + t else qT μ b p n (t + 1) := rfl
def qO (μ : Mem) (b : Int) : Nat → Int → Int
  | 0, _ => -1
  | n + 1, p => if qT μ b p (μ 32 0).toNat 0 = -1 then qO μ b n (p + 1) else qT μ b p (μ 32 0).toNat 0
theorem qO_s {μ : Mem} {b : Int} {n : Nat} {p : Int} : qO μ b (n + 1) p = if qT μ b p (μ 32 0).toNat 0 = -1 then qO μ b n (p + 1) else qT μ b p (μ 32 0).toNat 0 := rfl
theorem qT_ne {μ : Mem} {b p : Int} (hp : 0 ≤ p) : ∀ (n : Nat) (t : Int), 0 ≤ t → (qT μ b p n t = -1 ∨ 0 ≤ qT μ b p n t) := by
  intro n
  induction n with
  | zero => intro t _; exact Or.inl rfl
  | succ n ih =>
    intro t ht
    rw [qT_s]
    split
    · right; omega
    · exact ih (t + 1) (by omega)

set_option maxRecDepth 20000 in
theorem l_quarrelT {μ : Mem} (hC : CI μ) {b p : Int} (hb : b = 0 ∨ b = 1) (hp : 0 ≤ p ∧ p < μ 32 0) {X : ZX} {R : Int} (hX : isM X (fun w m => w = vi R ∧ m = μ)) (hex : qT μ b p (μ 32 0).toNat 0 = -1 → ∀ t, V X mX11_quarrel 70 [vr 0, vi b, vi p, vi t] [] μ) (hrt : ¬ qT μ b p (μ 32 0).toNat 0 = -1 → qT μ b p (μ 32 0).toNat 0 = R) : ∀ (n : Nat) (t : Int), (t + n = μ 32 0) → (0 ≤ t) → (qT μ b p n t = qT μ b p (μ 32 0).toNat 0) → V X mX11_quarrel 15 [vr 0, vi b, vi p, vi t] [] μ := by
  intro n
  induction n with
  | zero =>
    intro t h1 h2 hR
    obtain ⟨hL, hO, hA, hA0, hln, hS, hB, hT, hsd, hi1, hi2⟩ := id hC
    obtain ⟨hL0, hL1, hL2, hL3, hL4⟩ := id hL
    refine V_iloadn (pc := 15) dX11_quarrel_15 rfl ?_
    refine V_aloadn (pc := 16) dX11_quarrel_16 rfl ?_
    refine V_getr (pc := 17) dX11_quarrel_17 fX11_19 zk_0 zr_0_1 ?_
    refine V_cv0 (pc := 20) dX11_quarrel_20 kX11_134 zk_32 (by decide) (Nat.le_of_ble_eq_true rfl) (s_places LandAt_32) rfl ?_
    refine V_icmp_ge (pc := 23) (tgt := 70) dX11_quarrel_23 (by decide) (by omega) (by omega) (fun h23 => ?_) (fun h23 => ?_)
    · exact hex (by rw [← hR]; rfl) _
    · exfalso; omega
  | succ n ih =>
    intro t h1 h2 hR
    obtain ⟨hL, hO, hA, hA0, hln, hS, hB, hT, hsd, hi1, hi2⟩ := id hC
    obtain ⟨hL0, hL1, hL2, hL3, hL4⟩ := id hL
    refine V_iloadn (pc := 15) dX11_quarrel_15 rfl ?_
    refine V_aloadn (pc := 16) dX11_quarrel_16 rfl ?_
    refine V_getr (pc := 17) dX11_quarrel_17 fX11_19 zk_0 zr_0_1 ?_
    refine V_cv0 (pc := 20) dX11_quarrel_20 kX11_134 zk_32 (by decide) (Nat.le_of_ble_eq_true rfl) (s_places LandAt_32) rfl ?_
    refine V_icmp_ge (pc := 23) (tgt := 70) dX11_quarrel_23 (by decide) (by omega) (by omega) (fun h23 => ?_) (fun h23 => ?_)
    · exfalso; omega
    · refine V_iloadn (pc := 26) dX11_quarrel_26 rfl ?_
      refine V_if_eq (pc := 27) (tgt := 45) dX11_quarrel_27 (by decide) (by omega) (fun h27 => ?_) (fun h27 => ?_)
      · refine V_aloadn (pc := 45) dX11_quarrel_45 rfl ?_
        refine V_getr (pc := 46) dX11_quarrel_46 fX11_40 zk_0 zr_0_4 ?_
        refine V_iloadn (pc := 49) dX11_quarrel_49 rfl ?_
        refine V_iloadn (pc := 50) dX11_quarrel_50 rfl ?_
        refine V_cv2 (pc := 51) dX11_quarrel_51 kX11_269 zk_80 (by decide) (Nat.le_of_ble_eq_true rfl) (s_quarrelsWithLand PostsAt_80 hL hO (by omega) (by omega)) rfl ?_
        refine V_ifeq_b (pc := 54) (tgt := 64) dX11_quarrel_54 (by decide) (fun h54 => ?_) (fun h54 => ?_)
        · refine V_iinc_3 (pc := 64) dX11_quarrel_64 (by decide) rfl ?_
          refine V_goto (pc := 67) (tgt := 15) dX11_quarrel_67 (by decide) ?_
          exact ih _ (by omega) (by omega) (by rw [← hR, qT_s, if_neg (by unfold qF qW qY; omega)])
        · refine V_bipush (pc := 57) dX11_quarrel_57 (by decide +kernel) ?_
          refine V_iloadn (pc := 59) dX11_quarrel_59 rfl ?_
          refine V_imul (pc := 60) dX11_quarrel_60 ?_
          refine V_iloadn (pc := 61) dX11_quarrel_61 rfl ?_
          refine V_iadd (pc := 62) dX11_quarrel_62 ?_
          refine V_iret hX dX11_quarrel_63 rfl ?_
          have hc : qF μ b p t := by unfold qF qW qY; omega
          have e : qT μ b p (μ 32 0).toNat 0 = 10 * p + t := by rw [← hR, qT_s, if_pos hc]
          exact ⟨congrArg vi (by rw [← hrt (by omega), e]), rfl⟩
      · refine V_aloadn (pc := 30) dX11_quarrel_30 rfl ?_
        refine V_getr (pc := 31) dX11_quarrel_31 fX11_40 zk_0 zr_0_4 ?_
        refine V_iloadn (pc := 34) dX11_quarrel_34 rfl ?_
        refine V_iloadn (pc := 35) dX11_quarrel_35 rfl ?_
        refine V_cv2 (pc := 36) dX11_quarrel_36 kX11_266 zk_80 (by decide) (Nat.le_of_ble_eq_true rfl) (s_quarrelsOnTheWay PostsAt_80 hL hO (by omega) (by omega)) rfl ?_
        refine V_ifeq_b (pc := 39) (tgt := 64) dX11_quarrel_39 (by decide) (fun h39 => ?_) (fun h39 => ?_)
        · refine V_iinc_3 (pc := 64) dX11_quarrel_64 (by decide) rfl ?_
          refine V_goto (pc := 67) (tgt := 15) dX11_quarrel_67 (by decide) ?_
          exact ih _ (by omega) (by omega) (by rw [← hR, qT_s, if_neg (by unfold qF qW qY; omega)])
        · refine V_goto (pc := 42) (tgt := 57) dX11_quarrel_42 (by decide) ?_
          refine V_bipush (pc := 57) dX11_quarrel_57 (by decide +kernel) ?_
          refine V_iloadn (pc := 59) dX11_quarrel_59 rfl ?_
          refine V_imul (pc := 60) dX11_quarrel_60 ?_
          refine V_iloadn (pc := 61) dX11_quarrel_61 rfl ?_
          refine V_iadd (pc := 62) dX11_quarrel_62 ?_
          refine V_iret hX dX11_quarrel_63 rfl ?_
          have hc : qF μ b p t := by unfold qF qW qY; omega
          have e : qT μ b p (μ 32 0).toNat 0 = 10 * p + t := by rw [← hR, qT_s, if_pos hc]
          exact ⟨congrArg vi (by rw [← hrt (by omega), e]), rfl⟩

set_option maxRecDepth 20000 in
theorem l_quarrel {μ : Mem} (hC : CI μ) {b : Int} (hb : b = 0 ∨ b = 1) {X : ZX} {R : Int} (hX : isM X (fun w m => w = vi R ∧ m = μ)) : ∀ (n : Nat) (p : Int) (y3 : AV), (p + n = μ 32 0) → (0 ≤ p) → (qO μ b n p = R) → V X mX11_quarrel 2 [vr 0, vi b, vi p, y3] [] μ := by
  intro n
  induction n with
  | zero =>
    intro p y3 h1 h2 hR
    obtain ⟨hL, hO, hA, hA0, hln, hS, hB, hT, hsd, hi1, hi2⟩ := id hC
    obtain ⟨hL0, hL1, hL2, hL3, hL4⟩ := id hL
    refine V_iloadn (pc := 2) dX11_quarrel_2 rfl ?_
    refine V_aloadn (pc := 3) dX11_quarrel_3 rfl ?_
    refine V_getr (pc := 4) dX11_quarrel_4 fX11_19 zk_0 zr_0_1 ?_
    refine V_cv0 (pc := 7) dX11_quarrel_7 kX11_134 zk_32 (by decide) (Nat.le_of_ble_eq_true rfl) (s_places LandAt_32) rfl ?_
    refine V_icmp_ge (pc := 10) (tgt := 76) dX11_quarrel_10 (by decide) (by omega) (by omega) (fun h10 => ?_) (fun h10 => ?_)
    · refine V_iconst (pc := 76) dX11_quarrel_76 ?_
      refine V_iret hX dX11_quarrel_77 rfl ?_
      exact ⟨congrArg vi hR, rfl⟩
    · exfalso; omega
  | succ n ih =>
    intro p y3 h1 h2 hR
    obtain ⟨hL, hO, hA, hA0, hln, hS, hB, hT, hsd, hi1, hi2⟩ := id hC
    obtain ⟨hL0, hL1, hL2, hL3, hL4⟩ := id hL
    refine V_iloadn (pc := 2) dX11_quarrel_2 rfl ?_
    refine V_aloadn (pc := 3) dX11_quarrel_3 rfl ?_
    refine V_getr (pc := 4) dX11_quarrel_4 fX11_19 zk_0 zr_0_1 ?_
    refine V_cv0 (pc := 7) dX11_quarrel_7 kX11_134 zk_32 (by decide) (Nat.le_of_ble_eq_true rfl) (s_places LandAt_32) rfl ?_
    refine V_icmp_ge (pc := 10) (tgt := 76) dX11_quarrel_10 (by decide) (by omega) (by omega) (fun h10 => ?_) (fun h10 => ?_)
    · exfalso; omega
    · refine V_iconst (pc := 13) dX11_quarrel_13 ?_
      refine V_istore_3 (pc := 14) dX11_quarrel_14 (by decide) rfl ?_
      refine l_quarrelT hC hb (by omega) hX (fun hq t => ?_) (fun hq => by rw [← hR, qO_s, if_neg hq]) (μ 32 0).toNat 0 (by omega) (by omega) rfl
      refine V_iinc_2 (pc := 70) dX11_quarrel_70 (by decide) rfl ?_
      refine V_goto (pc := 73) (tgt := 2) dX11_quarrel_73 (by decide) ?_
      exact ih _ _ (by omega) (by omega) (by rw [← hR, qO_s, if_pos hq])

set_option maxRecDepth 20000 in
theorem t_quarrel {μ : Mem} (hC : CI μ) {b : Int} (hb : b = 0 ∨ b = 1) : SP mX11_quarrel [vr 0, vi b] μ (fun w m => w = vi (qO μ b (μ 32 0).toNat 0) ∧ m = μ) := by
  refine SP_intro (ls := [vr 0, vi b, un, un]) (by decide +kernel) rfl rfl (Nat.le_of_ble_eq_true rfl) rfl (fun X hX => ?_)
  obtain ⟨hL, hO, hA, hA0, hln, hS, hB, hT, hsd, hi1, hi2⟩ := id hC
  obtain ⟨hL0, hL1, hL2, hL3, hL4⟩ := id hL
  refine V_iconst (pc := 0) dX11_quarrel_0 ?_
  refine V_istore_2 (pc := 1) dX11_quarrel_1 (by decide) rfl ?_
  exact l_quarrel hC hb hX (μ 32 0).toNat 0 _ (by omega) (by omega) rfl

abbrev okS (μ : Mem) (s : Int) : Prop := ∀ g : Nat, g < (μ 32 2).toNat → ¬ gFar μ 32 (gFr μ 32 g) (gTo μ 32 g) = -1 → (wkF μ (gFr μ 32 g) (gTo μ 32 g) s).1 = 1
theorem okS_ag {μ ν : Mem} (g : Ag μ ν) (s : Int) : okS ν s ↔ okS μ s := by
  unfold okS; simp only [gFr_ag g, gTo_ag g, gFar_ag g, wkF_ag g, g 32 (by decide)]
def fwI (μ : Mem) (a c : Int) : Nat → Int → Int
  | 0, _ => -1
  | n + 1, s => if (iand s (ixor a (-1)) = 0 ∧ bitsF s = c) ∧ okS μ s then s else fwI μ a c n (s + 1)
theorem fwI_s {μ : Mem} {a c : Int} {n : Nat} {s : Int} : fwI μ a c (n + 1) s = if (iand s (ixor a (-1)) = 0 ∧ bitsF s = c) ∧ okS μ s then s else fwI μ a c n (s + 1) := rfl
def fwO (μ : Mem) (a : Int) : Nat → Int → Int
  | 0, _ => a
  | n + 1, c => if fwI μ a c (a + 1).toNat 0 = -1 then fwO μ a n (c + 1) else fwI μ a c (a + 1).toNat 0
theorem fwO_s {μ : Mem} {a : Int} {n : Nat} {c : Int} : fwO μ a (n + 1) c = if fwI μ a c (a + 1).toNat 0 = -1 then fwO μ a n (c + 1) else fwI μ a c (a + 1).toNat 0 := rfl
def astr (μ : Mem) : Int := sb (fun p => ¬ pT μ 80 p = 0 ∨ ¬ pF μ 80 p = 0) (μ 32 0).toNat 0 0

set_option maxRecDepth 20000 in
theorem l_fewestI {μ : Mem} (hC : CI μ) {a c : Int} (ha : 0 ≤ a ∧ a < 512) (hc : 0 ≤ c ∧ c ≤ 9) {X : ZX} {R : Int} (hX : isM X (fun w m => w = vi R ∧ Fr μ m)) (hex : fwI μ a c (a + 1).toNat 0 = -1 → ∀ s y4 ν, Fr μ ν → V X mX11_fewest 70 [vr 0, vi a, vi c, vi s, y4] [] ν) (hrt : ¬ fwI μ a c (a + 1).toNat 0 = -1 → fwI μ a c (a + 1).toNat 0 = R) : ∀ (n : Nat) (s : Int) (y4 : AV) (ν : Mem), (s + n = a + 1) → (0 ≤ s) → (Fr μ ν) → (fwI μ a c n s = fwI μ a c (a + 1).toNat 0) → V X mX11_fewest 18 [vr 0, vi a, vi c, vi s, y4] [] ν := by
  intro n
  induction n with
  | zero =>
    intro s y4 ν h1 h2 hw hR
    obtain ⟨hL, hO, hA, hA0, hln, hS, hB, hT, hsd, hi1, hi2⟩ := id hC
    obtain ⟨hL0, hL1, hL2, hL3, hL4⟩ := id hL
    have hg := hw.ag
    have hLn := LOK_ag hg hL
    have hOn := POK_ag hg hO
    have hAn : ∀ p t, gArm ν 32 p t ≤ 5 := fun p t => by rw [gArm_ag hg]; exact hA p t
    have hlnn : ∀ r, 0 ≤ gLn ν 32 r ∧ gLn ν 32 r ≤ 99 := fun r => by rw [gLn_ag hg]; exact hln r
    have g1 : inR (iand s (ixor a (-1))) := zi_rg _
    refine V_iloadn (pc := 18) dX11_fewest_18 rfl ?_
    refine V_iloadn (pc := 19) dX11_fewest_19 rfl ?_
    refine V_icmp_gt (pc := 20) (tgt := 70) dX11_fewest_20 (by decide) (by omega) (by omega) (fun h20 => ?_) (fun h20 => ?_)
    · exact hex (by rw [← hR]; rfl) _ _ _ hw
    · exfalso; omega
  | succ n ih =>
    intro s y4 ν h1 h2 hw hR
    obtain ⟨hL, hO, hA, hA0, hln, hS, hB, hT, hsd, hi1, hi2⟩ := id hC
    obtain ⟨hL0, hL1, hL2, hL3, hL4⟩ := id hL
    have hg := hw.ag
    have hLn := LOK_ag hg hL
    have hOn := POK_ag hg hO
    have hAn : ∀ p t, gArm ν 32 p t ≤ 5 := fun p t => by rw [gArm_ag hg]; exact hA p t
    have hlnn : ∀ r, 0 ≤ gLn ν 32 r ∧ gLn ν 32 r ≤ 99 := fun r => by rw [gLn_ag hg]; exact hln r
    have g1 : inR (iand s (ixor a (-1))) := zi_rg _
    have g2 := bitsF_rg' (s := s) (by omega)
    refine V_iloadn (pc := 18) dX11_fewest_18 rfl ?_
    refine V_iloadn (pc := 19) dX11_fewest_19 rfl ?_
    refine V_icmp_gt (pc := 20) (tgt := 70) dX11_fewest_20 (by decide) (by omega) (by omega) (fun h20 => ?_) (fun h20 => ?_)
    · exfalso; omega
    · refine V_iloadn (pc := 23) dX11_fewest_23 rfl ?_
      refine V_iloadn (pc := 24) dX11_fewest_24 rfl ?_
      refine V_iconst (pc := 25) dX11_fewest_25 ?_
      refine V_ixor (pc := 26) dX11_fewest_26 ?_
      refine V_iand (pc := 27) dX11_fewest_27 ?_
      refine V_if_ne (pc := 28) (tgt := 43) dX11_fewest_28 (by decide) (by omega) (fun h28 => ?_) (fun h28 => ?_)
      · refine V_iconst (pc := 43) dX11_fewest_43 ?_
        refine V_istore_4 (pc := 44) dX11_fewest_44 (by decide) rfl ?_
        refine V_iload (pc := 46) dX11_fewest_46 rfl ?_
        refine V_if_eq (pc := 48) (tgt := 64) dX11_fewest_48 (by decide) (by omega) (fun h48 => ?_) (fun h48 => ?_)
        · refine V_iinc_3 (pc := 64) dX11_fewest_64 (by decide) rfl ?_
          refine V_goto (pc := 67) (tgt := 18) dX11_fewest_67 (by decide) ?_
          first
            | exact ih _ _ _ (by omega) (by omega) hw2 (by rw [← hR, fwI_s, if_neg (fun h => absurd h.2 (by assumption))])
            | exact ih _ _ _ (by omega) (by omega) hw (by rw [← hR, fwI_s, if_neg (fun h => by have := h.1; omega)])
        · refine V_aloadn (pc := 51) dX11_fewest_51 rfl ?_
          refine V_getr (pc := 52) dX11_fewest_52 fX11_58 zk_0 zr_0_6 ?_
          refine V_iloadn (pc := 55) dX11_fewest_55 rfl ?_
          refine V_cq1 (pc := 56) dX11_fewest_56 kX11_275 zk_112 (by decide) (Nat.le_of_ble_eq_true rfl) (s_allCome hLn hOn hAn hlnn (by omega)) ?_
          intro w m hm
          obtain ⟨rfl, hm⟩ := hm
          have hw2 := Fr.tr hw hm
          rw [bi_cg (okS_ag hg s)]
          show V X _ _ _ (vi (bi (okS μ s)) :: _) m
          refine V_ifeq_b (pc := 59) (tgt := 64) dX11_fewest_59 (by decide) (fun h59 => ?_) (fun h59 => ?_)
          · refine V_iinc_3 (pc := 64) dX11_fewest_64 (by decide) rfl ?_
            refine V_goto (pc := 67) (tgt := 18) dX11_fewest_67 (by decide) ?_
            first
              | exact ih _ _ _ (by omega) (by omega) hw2 (by rw [← hR, fwI_s, if_neg (fun h => absurd h.2 (by assumption))])
              | exact ih _ _ _ (by omega) (by omega) hw (by rw [← hR, fwI_s, if_neg (fun h => by have := h.1; omega)])
          · refine V_iloadn (pc := 62) dX11_fewest_62 rfl ?_
            refine V_iret hX dX11_fewest_63 rfl ?_
            have e : fwI μ a c (a + 1).toNat 0 = s := by rw [← hR, fwI_s, if_pos ⟨by omega, by assumption⟩]
            exact ⟨congrArg vi (by rw [← hrt (by omega), e]), hw2⟩
      · refine V_iloadn (pc := 31) dX11_fewest_31 rfl ?_
        refine V_cs1 (pc := 32) dX11_fewest_32 kX11_261 (by decide) (Nat.le_of_ble_eq_true rfl) (s_bitCount (by omega)) rfl ?_
        refine V_iloadn (pc := 35) dX11_fewest_35 rfl ?_
        refine V_icmp_ne (pc := 36) (tgt := 43) dX11_fewest_36 (by decide) (by omega) (by omega) (fun h36 => ?_) (fun h36 => ?_)
        · refine V_iconst (pc := 43) dX11_fewest_43 ?_
          refine V_istore_4 (pc := 44) dX11_fewest_44 (by decide) rfl ?_
          refine V_iload (pc := 46) dX11_fewest_46 rfl ?_
          refine V_if_eq (pc := 48) (tgt := 64) dX11_fewest_48 (by decide) (by omega) (fun h48 => ?_) (fun h48 => ?_)
          · refine V_iinc_3 (pc := 64) dX11_fewest_64 (by decide) rfl ?_
            refine V_goto (pc := 67) (tgt := 18) dX11_fewest_67 (by decide) ?_
            first
              | exact ih _ _ _ (by omega) (by omega) hw2 (by rw [← hR, fwI_s, if_neg (fun h => absurd h.2 (by assumption))])
              | exact ih _ _ _ (by omega) (by omega) hw (by rw [← hR, fwI_s, if_neg (fun h => by have := h.1; omega)])
          · refine V_aloadn (pc := 51) dX11_fewest_51 rfl ?_
            refine V_getr (pc := 52) dX11_fewest_52 fX11_58 zk_0 zr_0_6 ?_
            refine V_iloadn (pc := 55) dX11_fewest_55 rfl ?_
            refine V_cq1 (pc := 56) dX11_fewest_56 kX11_275 zk_112 (by decide) (Nat.le_of_ble_eq_true rfl) (s_allCome hLn hOn hAn hlnn (by omega)) ?_
            intro w m hm
            obtain ⟨rfl, hm⟩ := hm
            have hw2 := Fr.tr hw hm
            rw [bi_cg (okS_ag hg s)]
            show V X _ _ _ (vi (bi (okS μ s)) :: _) m
            refine V_ifeq_b (pc := 59) (tgt := 64) dX11_fewest_59 (by decide) (fun h59 => ?_) (fun h59 => ?_)
            · refine V_iinc_3 (pc := 64) dX11_fewest_64 (by decide) rfl ?_
              refine V_goto (pc := 67) (tgt := 18) dX11_fewest_67 (by decide) ?_
              first
                | exact ih _ _ _ (by omega) (by omega) hw2 (by rw [← hR, fwI_s, if_neg (fun h => absurd h.2 (by assumption))])
                | exact ih _ _ _ (by omega) (by omega) hw (by rw [← hR, fwI_s, if_neg (fun h => by have := h.1; omega)])
            · refine V_iloadn (pc := 62) dX11_fewest_62 rfl ?_
              refine V_iret hX dX11_fewest_63 rfl ?_
              have e : fwI μ a c (a + 1).toNat 0 = s := by rw [← hR, fwI_s, if_pos ⟨by omega, by assumption⟩]
              exact ⟨congrArg vi (by rw [← hrt (by omega), e]), hw2⟩
        · refine V_iconst (pc := 39) dX11_fewest_39 ?_
          refine V_goto (pc := 40) (tgt := 44) dX11_fewest_40 (by decide) ?_
          refine V_istore_4 (pc := 44) dX11_fewest_44 (by decide) rfl ?_
          refine V_iload (pc := 46) dX11_fewest_46 rfl ?_
          refine V_if_eq (pc := 48) (tgt := 64) dX11_fewest_48 (by decide) (by omega) (fun h48 => ?_) (fun h48 => ?_)
          · refine V_iinc_3 (pc := 64) dX11_fewest_64 (by decide) rfl ?_
            refine V_goto (pc := 67) (tgt := 18) dX11_fewest_67 (by decide) ?_
            first
              | exact ih _ _ _ (by omega) (by omega) hw2 (by rw [← hR, fwI_s, if_neg (fun h => absurd h.2 (by assumption))])
              | exact ih _ _ _ (by omega) (by omega) hw (by rw [← hR, fwI_s, if_neg (fun h => by have := h.1; omega)])
          · refine V_aloadn (pc := 51) dX11_fewest_51 rfl ?_
            refine V_getr (pc := 52) dX11_fewest_52 fX11_58 zk_0 zr_0_6 ?_
            refine V_iloadn (pc := 55) dX11_fewest_55 rfl ?_
            refine V_cq1 (pc := 56) dX11_fewest_56 kX11_275 zk_112 (by decide) (Nat.le_of_ble_eq_true rfl) (s_allCome hLn hOn hAn hlnn (by omega)) ?_
            intro w m hm
            obtain ⟨rfl, hm⟩ := hm
            have hw2 := Fr.tr hw hm
            rw [bi_cg (okS_ag hg s)]
            show V X _ _ _ (vi (bi (okS μ s)) :: _) m
            refine V_ifeq_b (pc := 59) (tgt := 64) dX11_fewest_59 (by decide) (fun h59 => ?_) (fun h59 => ?_)
            · refine V_iinc_3 (pc := 64) dX11_fewest_64 (by decide) rfl ?_
              refine V_goto (pc := 67) (tgt := 18) dX11_fewest_67 (by decide) ?_
              first
                | exact ih _ _ _ (by omega) (by omega) hw2 (by rw [← hR, fwI_s, if_neg (fun h => absurd h.2 (by assumption))])
                | exact ih _ _ _ (by omega) (by omega) hw (by rw [← hR, fwI_s, if_neg (fun h => by have := h.1; omega)])
            · refine V_iloadn (pc := 62) dX11_fewest_62 rfl ?_
              refine V_iret hX dX11_fewest_63 rfl ?_
              have e : fwI μ a c (a + 1).toNat 0 = s := by rw [← hR, fwI_s, if_pos ⟨by omega, by assumption⟩]
              exact ⟨congrArg vi (by rw [← hrt (by omega), e]), hw2⟩

set_option maxRecDepth 20000 in
theorem l_fewest {μ : Mem} (hC : CI μ) {a : Int} (ha : 0 ≤ a ∧ a < 512) {X : ZX} {R : Int} (hX : isM X (fun w m => w = vi R ∧ Fr μ m)) : ∀ (n : Nat) (c : Int) (y3 y4 : AV) (ν : Mem), (c + n = 9) → (0 ≤ c) → (Fr μ ν) → (fwO μ a n c = R) → V X mX11_fewest 10 [vr 0, vi a, vi c, y3, y4] [] ν := by
  intro n
  induction n with
  | zero =>
    intro c y3 y4 ν h1 h2 hw hR
    refine V_iloadn (pc := 10) dX11_fewest_10 rfl ?_
    refine V_bipush (pc := 11) dX11_fewest_11 (by decide +kernel) ?_
    refine V_icmp_ge (pc := 13) (tgt := 76) dX11_fewest_13 (by decide) (by omega) (by decide) (fun h13 => ?_) (fun h13 => ?_)
    · refine V_iloadn (pc := 76) dX11_fewest_76 rfl ?_
      refine V_iret hX dX11_fewest_77 rfl ?_
      exact ⟨congrArg vi hR, hw⟩
    · exfalso; omega
  | succ n ih =>
    intro c y3 y4 ν h1 h2 hw hR
    refine V_iloadn (pc := 10) dX11_fewest_10 rfl ?_
    refine V_bipush (pc := 11) dX11_fewest_11 (by decide +kernel) ?_
    refine V_icmp_ge (pc := 13) (tgt := 76) dX11_fewest_13 (by decide) (by omega) (by decide) (fun h13 => ?_) (fun h13 => ?_)
    · exfalso; omega
    · refine V_iconst (pc := 16) dX11_fewest_16 ?_
      refine V_istore_3 (pc := 17) dX11_fewest_17 (by decide) rfl ?_
      refine l_fewestI hC ha (by omega) hX (fun hq s y4 ν2 hw2 => ?_) (fun hq => by rw [← hR, fwO_s, if_neg hq]) (a + 1).toNat 0 _ _ (by omega) (by omega) hw rfl
      refine V_iinc_2 (pc := 70) dX11_fewest_70 (by decide) rfl ?_
      refine V_goto (pc := 73) (tgt := 10) dX11_fewest_73 (by decide) ?_
      exact ih _ _ _ _ (by omega) (by omega) hw2 (by rw [← hR, fwO_s, if_pos hq])

set_option maxRecDepth 20000 in
theorem t_fewest {μ : Mem} (hC : CI μ) (hast : 0 ≤ astr μ ∧ astr μ < 512) : SP mX11_fewest [vr 0] μ (fun w m => w = vi (fwO μ (astr μ) 9 0) ∧ Fr μ m) := by
  refine SP_intro (ls := [vr 0, un, un, un, un]) (by decide +kernel) rfl rfl (Nat.le_of_ble_eq_true rfl) rfl (fun X hX => ?_)
  obtain ⟨hL, hO, hA, hA0, hln, hS, hB, hT, hsd, hi1, hi2⟩ := id hC
  obtain ⟨hL0, hL1, hL2, hL3, hL4⟩ := id hL
  refine V_aloadn (pc := 0) dX11_fewest_0 rfl ?_
  refine V_getr (pc := 1) dX11_fewest_1 fX11_40 zk_0 zr_0_4 ?_
  refine V_cv0 (pc := 4) dX11_fewest_4 kX11_272 zk_80 (by decide) (Nat.le_of_ble_eq_true rfl) (s_astraySet PostsAt_80 hL hO) rfl ?_
  refine V_istore_1 (pc := 7) dX11_fewest_7 (by decide) rfl ?_
  refine V_iconst (pc := 8) dX11_fewest_8 ?_
  refine V_istore_2 (pc := 9) dX11_fewest_9 (by decide) rfl ?_
  exact l_fewest hC hast hX 9 0 _ _ μ (by omega) (by omega) (Fr.rf μ) rfl


theorem shL_ag {μ ν : Mem} (g : Ag μ ν) {r1 r2 : Int → Int → Int → Int → Int} (hr : ∀ a b c d, r1 a b c d = r2 a b c d) (x been dep asi t : Int) : ∀ (n : Nat) (k left tl acc : Int), shL ν r1 x been dep asi t n k left tl acc = shL μ r2 x been dep asi t n k left tl acc := by
  intro n
  induction n with
  | zero => intros; rfl
  | succ n ih => intro k left tl acc; simp only [shL_s, pT_ag g, nxt, gBy_ag g, gRd_ag g, sA_ag g, gArm_ag g, hr, ih]
theorem shT_ag {μ ν : Mem} (g : Ag μ ν) (t o : Int) : ∀ (n : Nat) (x been sh dep : Int), shT ν t o n x been sh dep = shT μ t o n x been sh dep := by
  intro n
  induction n with
  | zero => intros; rfl
  | succ n ih => intro x been sh dep; simp only [shT, asI, gSd_ag g, aT_ag g, shL_ag g (ih), pT_ag g]

set_option maxRecDepth 20000 in
theorem s_oddsToCome {μ : Mem} (hL : LOK μ 32) (hO : POK μ 80) (hA : ∀ p t, gArm μ 32 p t ≤ 5) {x t o : Int} (hx : inR x) (ht : inR t) (ho : 0 ≤ o ∧ o ≤ 100) : SP mX5_oddsToCome [vr 128, vi x, vi t, vi o] μ (fun w m => w = vi (l2i (shT μ t o 10 x 0 1000000000 0)) ∧ m = mu (mu μ 128 2 t) 128 3 o) := by
  refine SP_intro (ls := [vr 128, vi x, vi t, vi o]) (by decide +kernel) rfl rfl (Nat.le_of_ble_eq_true rfl) rfl (fun X hX => ?_)
  have hg : Ag μ (mu (mu μ 128 2 t) 128 3 o) := ((Ag.rf μ).mu (by decide)).mu (by decide)
  have hAn : ∀ p q, gArm (mu (mu μ 128 2 t) 128 3 o) 32 p q ≤ 5 := fun p q => by rw [gArm_ag hg]; exact hA p q
  have e1 : mu (mu μ 128 2 t) 128 3 o 128 2 = t := by rw [mu_j (by decide), mu_h]
  have e2 : mu (mu μ 128 2 t) 128 3 o 128 3 = o := mu_h
  have hT2 : inR (mu (mu μ 128 2 t) 128 3 o 128 2) := by rw [e1]; exact ht
  have hO2 : 0 ≤ mu (mu μ 128 2 t) 128 3 o 128 3 ∧ mu (mu μ 128 2 t) 128 3 o 128 3 ≤ 100 := by rw [e2]; exact ho
  refine V_aloadn (pc := 0) dX5_oddsToCome_0 rfl ?_
  refine V_iloadn (pc := 1) dX5_oddsToCome_1 rfl ?_
  refine V_puti (pc := 2) dX5_oddsToCome_2 fX5_19 zk_128 ?_
  refine V_aloadn (pc := 5) dX5_oddsToCome_5 rfl ?_
  refine V_iloadn (pc := 6) dX5_oddsToCome_6 rfl ?_
  refine V_puti (pc := 7) dX5_oddsToCome_7 fX5_23 zk_128 ?_
  refine V_aloadn (pc := 10) dX5_oddsToCome_10 rfl ?_
  refine V_iloadn (pc := 11) dX5_oddsToCome_11 rfl ?_
  refine V_iconst (pc := 12) dX5_oddsToCome_12 ?_
  refine V_ldc2 (pc := 13) (n := 1000000000) dX5_oddsToCome_13 nX5_26 (by decide) ?_
  refine V_iconst (pc := 16) dX5_oddsToCome_16 ?_
  refine V_cv4 (pc := 17) dX5_oddsToCome_17 (kX5_28 10) zk_128 (show 10 + 2 * 10 + 1 < 61 by omega) (Nat.le_of_ble_eq_true rfl) (s_share (LOK_ag hg hL) (POK_ag hg hO) hAn hT2 hO2 10 _ _ _ _ hx (by decide) (by decide) (by decide) (by decide) (by decide)) rfl ?_
  refine V_l2i (pc := 20) dX5_oddsToCome_20 ?_
  refine V_iret hX dX5_oddsToCome_21 rfl ?_
  refine ⟨?_, rfl⟩
  rw [shT_ag hg, e1, e2]

theorem ze_bvL (n : Nat) : (Int64.ofInt (n : Int)).toBitVec = BitVec.ofNat 64 n := by
  first | exact BitVec.ofInt_natCast 64 n | simp | rfl
theorem ze_andL (n m : Nat) : Int64.ofInt (n : Int) &&& Int64.ofInt (m : Int) = Int64.ofInt ((n &&& m : Nat) : Int) := by
  apply Int64.toBitVec_inj.mp
  rw [Int64.toBitVec_and, ze_bvL, ze_bvL, ze_bvL, BitVec.ofNat_and]
theorem landd_mask {x : Int} (h : 0 ≤ x ∧ x < 4611686018427387904) : landd x 2147483647 = x % 2147483648 := by
  obtain ⟨n, rfl⟩ := Int.eq_ofNat_of_zero_le h.1
  unfold landd
  have h1 : n &&& (2 ^ 31 - 1) = n % 2 ^ 31 := Nat.and_two_pow_sub_one_eq_mod n 31
  rw [show (2147483647 : Int) = ((2147483647 : Nat) : Int) from rfl, ze_andL, show (n &&& 2147483647) = n % 2147483648 from h1, zl_to ⟨by omega, by omega⟩]
  omega
theorem l2i_id {x : Int} (h : inR x) : l2i x = x := by
  unfold l2i
  have h1 : (Int64.ofInt x).toInt32 = Int32.ofInt x := by
    rw [← Int32.toInt_inj, Int64.toInt_toInt32, zl_to ⟨by omega, by omega⟩, zi_to h]
    exact Int.bmod_eq_of_le (by omega) (by omega)
  rw [h1, zi_to h]
/-- the next state of the draws -/
def dnx (s : Int) : Int := (s * 1103515245 + 12345) % 2147483648
theorem dnx_rg (s : Int) : 0 ≤ dnx s ∧ dnx s < 2147483648 := by unfold dnx; omega

set_option maxRecDepth 20000 in
theorem s_next {μ : Mem} (h : 0 ≤ μ 176 0 ∧ μ 176 0 < 2147483648) {n : Int} (hn : 0 < n ∧ n ≤ 100) : SP mX2_next [vr 176, vi n] μ (fun w m => w = vi (((dnx (μ 176 0)).tdiv 65536).tmod n) ∧ m = mu μ 176 0 (dnx (μ 176 0))) := by
  refine SP_intro (ls := [vr 176, vi n]) (by decide +kernel) rfl rfl (Nat.le_of_ble_eq_true rfl) rfl (fun X hX => ?_)
  have g := dnx_rg (μ 176 0)
  have g2 := tdiv_rg (a := dnx (μ 176 0)) (b := 65536) g.1 (by decide)
  have g3 := tdiv_rg (a := (dnx (μ 176 0)).tdiv 65536) (b := n) g2.1 hn.1
  refine V_aloadn (pc := 0) dX2_next_0 rfl ?_
  refine V_aloadn (pc := 1) dX2_next_1 rfl ?_
  refine V_geti (r := 0) (pc := 2) dX2_next_2 fX2_9 zk_176 ?_
  refine V_i2l (pc := 5) dX2_next_5 (by omega) ?_
  refine V_ldc2 (pc := 6) (n := 1103515245) dX2_next_6 nX2_15 (by decide) ?_
  refine V_lmul (pc := 9) dX2_next_9 ?_
  refine V_ldc2 (pc := 10) (n := 12345) dX2_next_10 nX2_17 (by decide) ?_
  refine V_ladd (pc := 13) dX2_next_13 ?_
  refine V_ldc2 (pc := 14) (n := 2147483647) dX2_next_14 nX2_19 (by decide) ?_
  refine V_land (pc := 17) dX2_next_17 ?_
  refine V_l2i (pc := 18) dX2_next_18 ?_
  rw [landd_mask (by omega), show (μ 176 0 * 1103515245 + 12345) % 2147483648 = dnx (μ 176 0) from rfl, l2i_id (by omega)]
  refine V_puti (pc := 19) dX2_next_19 fX2_9 zk_176 ?_
  refine V_iloadn (pc := 22) dX2_next_22 rfl ?_
  refine V_if_le (pc := 23) (tgt := 38) dX2_next_23 (by decide) (by omega) (fun h23 => ?_) (fun h23 => ?_)
  · exfalso; omega
  · refine V_aloadn (pc := 26) dX2_next_26 rfl ?_
    refine V_geti (r := 0) (pc := 27) dX2_next_27 fX2_9 zk_176 ?_
    rw [mu_h]
    refine V_ldc (pc := 30) (n := 65536) dX2_next_30 nX2_21 (by decide) ?_
    refine V_idiv (pc := 32) dX2_next_32 (by omega) (by decide) (by decide) (by omega) ?_
    refine V_iloadn (pc := 33) dX2_next_33 rfl ?_
    refine V_irem (pc := 34) dX2_next_34 (by omega) (by omega) (by omega) (by omega) ?_
    refine V_goto (pc := 35) (tgt := 39) dX2_next_35 (by decide) ?_
    refine V_iret hX dX2_next_39 rfl ?_
    exact ⟨rfl, rfl⟩

def bcm (μ : Mem) (o q : Nat) : Mem := fun a b => if (a = o + 2 ∧ b < 9) ∨ (a = o + 3 ∧ b < 9) ∨ (a = o + 4 ∧ b < 81) then μ (a - o + q) b else μ a b
theorem bcm_out {μ : Mem} {o q a : Nat} (h1 : a ≠ o + 2) (h2 : a ≠ o + 3) (h3 : a ≠ o + 4) : bcm μ o q a = μ a := by
  funext b; simp [bcm, h1, h2, h3]

set_option maxRecDepth 20000 in
theorem s_pBecome {μ : Mem} {o q : Nat} (ho : PostsAt o) (hq : PostsAt q) (hne : (o + 4 < q + 2 ∨ q + 4 < o + 2)) : SP mX6_become [vr o, vr q] μ (fun w m => w = un ∧ m = bcm μ o q) := by
  refine SP_intro (ls := [vr o, vr q]) (by decide +kernel) rfl rfl (Nat.le_of_ble_eq_true rfl) rfl (fun X hX => ?_)
  refine V_aloadn (pc := 0) dX6_become_0 rfl ?_
  refine V_getr (pc := 1) dX6_become_1 fX6_9 (PostsAt_k hq) (PostsAt_z1 hq) ?_
  refine V_iconst (pc := 4) dX6_become_4 ?_
  refine V_aloadn (pc := 5) dX6_become_5 rfl ?_
  refine V_getr (pc := 6) dX6_become_6 fX6_9 (PostsAt_k ho) (PostsAt_z1 ho) ?_
  refine V_iconst (pc := 9) dX6_become_9 ?_
  refine V_bipush (pc := 10) dX6_become_10 (by decide +kernel) ?_
  refine V_copy (pc := 12) dX6_become_12 kX6_25 (PostsAt_a1 hq) (PostsAt_a1 ho) rfl (by decide) (by omega) (by decide) (Nat.le_of_ble_eq_true rfl) ?_
  refine V_aloadn (pc := 15) dX6_become_15 rfl ?_
  refine V_getr (pc := 16) dX6_become_16 fX6_15 (PostsAt_k hq) (PostsAt_z2 hq) ?_
  refine V_iconst (pc := 19) dX6_become_19 ?_
  refine V_aloadn (pc := 20) dX6_become_20 rfl ?_
  refine V_getr (pc := 21) dX6_become_21 fX6_15 (PostsAt_k ho) (PostsAt_z2 ho) ?_
  refine V_iconst (pc := 24) dX6_become_24 ?_
  refine V_bipush (pc := 25) dX6_become_25 (by decide +kernel) ?_
  refine V_copy (pc := 27) dX6_become_27 kX6_25 (PostsAt_a2 hq) (PostsAt_a2 ho) rfl (by decide) (by omega) (by decide) (Nat.le_of_ble_eq_true rfl) ?_
  refine V_aloadn (pc := 30) dX6_become_30 rfl ?_
  refine V_getr (pc := 31) dX6_become_31 fX6_18 (PostsAt_k hq) (PostsAt_z3 hq) ?_
  refine V_iconst (pc := 34) dX6_become_34 ?_
  refine V_aloadn (pc := 35) dX6_become_35 rfl ?_
  refine V_getr (pc := 36) dX6_become_36 fX6_18 (PostsAt_k ho) (PostsAt_z3 ho) ?_
  refine V_iconst (pc := 39) dX6_become_39 ?_
  refine V_bipush (pc := 40) dX6_become_40 (by decide +kernel) ?_
  refine V_copy (pc := 42) dX6_become_42 kX6_25 (PostsAt_a3 hq) (PostsAt_a3 ho) rfl (by decide) (by omega) (by decide) (Nat.le_of_ble_eq_true rfl) ?_
  refine V_vret (x := 0) hX dX6_become_45 rfl ?_
  refine ⟨rfl, ?_⟩
  funext a b
  simp only [mw_ap, bcm]
  by_cases c2 : a = o + 2
  · subst c2
    rw [if_neg (show ¬ o + 2 = o + 4 by omega), if_neg (show ¬ o + 2 = o + 3 by omega), if_pos rfl, show o + 2 - o + q = q + 2 by omega]
    by_cases hb : b < 9
    · rw [if_pos hb, if_pos (Or.inl ⟨rfl, hb⟩)]
    · rw [if_neg hb, if_neg (by omega)]
  · by_cases c3 : a = o + 3
    · subst c3
      rw [if_neg (show ¬ o + 3 = o + 4 by omega), if_pos rfl, if_neg (show ¬ q + 3 = o + 2 by omega), if_neg (show ¬ o + 3 = o + 2 by omega), show o + 3 - o + q = q + 3 by omega]
      by_cases hb : b < 9
      · rw [if_pos hb, if_pos (Or.inr (Or.inl ⟨rfl, hb⟩))]
      · rw [if_neg hb, if_neg (by omega)]
    · by_cases c4 : a = o + 4
      · subst c4
        rw [if_pos rfl, if_neg (show ¬ q + 4 = o + 3 by omega), if_neg (show ¬ q + 4 = o + 2 by omega), if_neg (show ¬ o + 4 = o + 3 by omega), if_neg (show ¬ o + 4 = o + 2 by omega), show o + 4 - o + q = q + 4 by omega]
        by_cases hb : b < 81
        · rw [if_pos hb, if_pos (Or.inr (Or.inr ⟨rfl, hb⟩))]
        · rw [if_neg hb, if_neg (by omega)]
      · rw [if_neg c4, if_neg c3, if_neg c2, if_neg (by omega)]

set_option maxRecDepth 20000 in
theorem s_take1 {μ : Mem} : SP mX3_take [vr 192, vr 80, vr 176] μ (fun w m => w = un ∧ m = mu (mu (bcm μ 208 80) 192 1 (μ 176 0)) 192 2 1) := by
  refine SP_intro (ls := [vr 192, vr 80, vr 176]) (by decide +kernel) rfl rfl (Nat.le_of_ble_eq_true rfl) rfl (fun X hX => ?_)
  refine V_aloadn (pc := 0) dX3_take_0 rfl ?_
  refine V_getr (pc := 1) dX3_take_1 fX3_12 zk_192 zr_192_0 ?_
  refine V_aloadn (pc := 4) dX3_take_4 rfl ?_
  refine V_cu1 (pc := 5) dX3_take_5 kX3_22 zk_208 (by decide) (Nat.le_of_ble_eq_true rfl) (s_pBecome PostsAt_208 PostsAt_80 (by decide)) ?_
  refine V_aloadn (pc := 8) dX3_take_8 rfl ?_
  refine V_aloadn (pc := 9) dX3_take_9 rfl ?_
  refine V_cv0 (pc := 10) dX3_take_10 kX3_26 zk_176 (by decide) (Nat.le_of_ble_eq_true rfl) (s_state) rfl ?_
  rw [bcm_out (by decide) (by decide) (by decide)]
  refine V_puti (pc := 13) dX3_take_13 fX3_32 zk_192 ?_
  refine V_aloadn (pc := 16) dX3_take_16 rfl ?_
  refine V_iconst (pc := 17) dX3_take_17 ?_
  refine V_putz (pc := 18) dX3_take_18 fX3_18 zk_192 (by first | exact Or.inl rfl | exact Or.inr rfl) ?_
  refine V_vret (x := 0) hX dX3_take_21 rfl ?_
  exact ⟨rfl, rfl⟩

set_option maxRecDepth 20000 in
theorem s_giveBack1 {μ : Mem} : SP mX3_giveBack [vr 192, vr 80, vr 176] μ (fun w m => w = un ∧ m = mu (bcm μ 80 208) 176 0 (μ 192 1)) := by
  refine SP_intro (ls := [vr 192, vr 80, vr 176]) (by decide +kernel) rfl rfl (Nat.le_of_ble_eq_true rfl) rfl (fun X hX => ?_)
  refine V_aloadn (pc := 0) dX3_giveBack_0 rfl ?_
  refine V_aloadn (pc := 1) dX3_giveBack_1 rfl ?_
  refine V_getr (pc := 2) dX3_giveBack_2 fX3_12 zk_192 zr_192_0 ?_
  refine V_cu1 (pc := 5) dX3_giveBack_5 kX3_22 zk_80 (by decide) (Nat.le_of_ble_eq_true rfl) (s_pBecome PostsAt_80 PostsAt_208 (by decide)) ?_
  refine V_aloadn (pc := 8) dX3_giveBack_8 rfl ?_
  refine V_aloadn (pc := 9) dX3_giveBack_9 rfl ?_
  refine V_geti (r := 0) (pc := 10) dX3_giveBack_10 fX3_32 zk_192 ?_
  rw [bcm_out (by decide) (by decide) (by decide)]
  refine V_cu1 (pc := 13) dX3_giveBack_13 kX3_36 zk_176 (by decide) (Nat.le_of_ble_eq_true rfl) (s_startFrom) ?_
  refine V_vret (x := 0) hX dX3_giveBack_16 rfl ?_
  exact ⟨rfl, rfl⟩

set_option maxRecDepth 20000 in
theorem s_take2 {μ : Mem} : SP mX3_take [vr 224, vr 80, vr 176] μ (fun w m => w = un ∧ m = mu (mu (bcm μ 240 80) 224 1 (μ 176 0)) 224 2 1) := by
  refine SP_intro (ls := [vr 224, vr 80, vr 176]) (by decide +kernel) rfl rfl (Nat.le_of_ble_eq_true rfl) rfl (fun X hX => ?_)
  refine V_aloadn (pc := 0) dX3_take_0 rfl ?_
  refine V_getr (pc := 1) dX3_take_1 fX3_12 zk_224 zr_224_0 ?_
  refine V_aloadn (pc := 4) dX3_take_4 rfl ?_
  refine V_cu1 (pc := 5) dX3_take_5 kX3_22 zk_240 (by decide) (Nat.le_of_ble_eq_true rfl) (s_pBecome PostsAt_240 PostsAt_80 (by decide)) ?_
  refine V_aloadn (pc := 8) dX3_take_8 rfl ?_
  refine V_aloadn (pc := 9) dX3_take_9 rfl ?_
  refine V_cv0 (pc := 10) dX3_take_10 kX3_26 zk_176 (by decide) (Nat.le_of_ble_eq_true rfl) (s_state) rfl ?_
  rw [bcm_out (by decide) (by decide) (by decide)]
  refine V_puti (pc := 13) dX3_take_13 fX3_32 zk_224 ?_
  refine V_aloadn (pc := 16) dX3_take_16 rfl ?_
  refine V_iconst (pc := 17) dX3_take_17 ?_
  refine V_putz (pc := 18) dX3_take_18 fX3_18 zk_224 (by first | exact Or.inl rfl | exact Or.inr rfl) ?_
  refine V_vret (x := 0) hX dX3_take_21 rfl ?_
  exact ⟨rfl, rfl⟩

set_option maxRecDepth 20000 in
theorem s_giveBack2 {μ : Mem} : SP mX3_giveBack [vr 224, vr 80, vr 176] μ (fun w m => w = un ∧ m = mu (bcm μ 80 240) 176 0 (μ 224 1)) := by
  refine SP_intro (ls := [vr 224, vr 80, vr 176]) (by decide +kernel) rfl rfl (Nat.le_of_ble_eq_true rfl) rfl (fun X hX => ?_)
  refine V_aloadn (pc := 0) dX3_giveBack_0 rfl ?_
  refine V_aloadn (pc := 1) dX3_giveBack_1 rfl ?_
  refine V_getr (pc := 2) dX3_giveBack_2 fX3_12 zk_224 zr_224_0 ?_
  refine V_cu1 (pc := 5) dX3_giveBack_5 kX3_22 zk_80 (by decide) (Nat.le_of_ble_eq_true rfl) (s_pBecome PostsAt_80 PostsAt_240 (by decide)) ?_
  refine V_aloadn (pc := 8) dX3_giveBack_8 rfl ?_
  refine V_aloadn (pc := 9) dX3_giveBack_9 rfl ?_
  refine V_geti (r := 0) (pc := 10) dX3_giveBack_10 fX3_32 zk_224 ?_
  rw [bcm_out (by decide) (by decide) (by decide)]
  refine V_cu1 (pc := 13) dX3_giveBack_13 kX3_36 zk_176 (by decide) (Nat.le_of_ble_eq_true rfl) (s_startFrom) ?_
  refine V_vret (x := 0) hX dX3_giveBack_16 rfl ?_
  exact ⟨rfl, rfl⟩

def sAll (o : Nat) : Nat → Int → Mem → Mem
  | 0, _, m => m
  | n + 1, p, m => sAll o n (p + 1) (sRt m o p 9)
theorem sAll_s {o n : Nat} {p : Int} {m : Mem} : sAll o (n + 1) p m = sAll o n (p + 1) (sRt m o p 9) := rfl
theorem sRt_32 {μ : Mem} {o : Nat} {p t : Int} (ho : PostsAt o) : sRt μ o p t 32 = μ 32 := by
  have := ho.ge
  exact sRt_out (by omega) (by omega) (by omega)

set_option maxRecDepth 20000 in
theorem l_setAllRight {o : Nat} (ho : PostsAt o) {N : Int} {R : Mem} {X : ZX} (hX : isM X (fun w m => w = un ∧ m = R)) : ∀ (n : Nat) (p : Int) (ν : Mem), (p + n = N) → (0 ≤ p) → (ν 32 0 = N) → (LOK ν 32) → (sAll o n p ν = R) → V X mX6_setAllRight 2 [vr o, vi p] [] ν := by
  intro n
  induction n with
  | zero =>
    intro p ν h1 h2 hN hLn hR
    obtain ⟨hL0, -⟩ := id hLn
    refine V_iloadn (pc := 2) dX6_setAllRight_2 rfl ?_
    refine V_aloadn (pc := 3) dX6_setAllRight_3 rfl ?_
    refine V_getr (pc := 4) dX6_setAllRight_4 fX6_21 (PostsAt_k ho) (PostsAt_z0 ho) ?_
    refine V_cv0 (pc := 7) dX6_setAllRight_7 kX6_31 zk_32 (by decide) (Nat.le_of_ble_eq_true rfl) (s_places LandAt_32) rfl ?_
    refine V_icmp_ge (pc := 10) (tgt := 24) dX6_setAllRight_10 (by decide) (by omega) (by omega) (fun h10 => ?_) (fun h10 => ?_)
    · refine V_vret (x := 0) hX dX6_setAllRight_24 rfl ?_
      exact ⟨rfl, hR⟩
    · exfalso; omega
  | succ n ih =>
    intro p ν h1 h2 hN hLn hR
    obtain ⟨hL0, -⟩ := id hLn
    refine V_iloadn (pc := 2) dX6_setAllRight_2 rfl ?_
    refine V_aloadn (pc := 3) dX6_setAllRight_3 rfl ?_
    refine V_getr (pc := 4) dX6_setAllRight_4 fX6_21 (PostsAt_k ho) (PostsAt_z0 ho) ?_
    refine V_cv0 (pc := 7) dX6_setAllRight_7 kX6_31 zk_32 (by decide) (Nat.le_of_ble_eq_true rfl) (s_places LandAt_32) rfl ?_
    refine V_icmp_ge (pc := 10) (tgt := 24) dX6_setAllRight_10 (by decide) (by omega) (by omega) (fun h10 => ?_) (fun h10 => ?_)
    · exfalso; omega
    · refine V_aloadn (pc := 13) dX6_setAllRight_13 rfl ?_
      refine V_iloadn (pc := 14) dX6_setAllRight_14 rfl ?_
      refine V_cu1 (pc := 15) dX6_setAllRight_15 kX6_37 (PostsAt_k ho) (by decide) (Nat.le_of_ble_eq_true rfl) (s_setRight ho hLn (by omega)) ?_
      refine V_iinc_1 (pc := 18) dX6_setAllRight_18 (by decide) rfl ?_
      refine V_goto (pc := 21) (tgt := 2) dX6_setAllRight_21 (by decide) ?_
      exact ih _ _ (by omega) (by omega) (by rw [sRt_32 ho]; exact hN) (LOK_sRt ho hLn) hR

set_option maxRecDepth 20000 in
theorem s_setAllRight {μ : Mem} {o : Nat} (ho : PostsAt o) (hL : LOK μ 32) : SP mX6_setAllRight [vr o] μ (fun w m => w = un ∧ m = sAll o (μ 32 0).toNat 0 μ) := by
  refine SP_intro (ls := [vr o, un]) (by decide +kernel) rfl rfl (Nat.le_of_ble_eq_true rfl) rfl (fun X hX => ?_)
  obtain ⟨hL0, -⟩ := id hL
  refine V_iconst (pc := 0) dX6_setAllRight_0 ?_
  refine V_istore_1 (pc := 1) dX6_setAllRight_1 (by decide) rfl ?_
  exact l_setAllRight ho (N := μ 32 0) hX (μ 32 0).toNat 0 μ (by omega) (by omega) rfl hL rfl

def fTl (μ : Mem) (p : Int) : Nat → Int → Int → Int
  | 0, _, s => s
  | n + 1, k, s => fTl μ p n (k + 1) (if μ 146 k.toNat = p then iand s (ishl 1 ((sTw μ 32 p (μ 148 k.toNat) (gSd μ 32 p).toNat 0 - gArm μ 32 p (μ 147 k.toNat)) % gSd μ 32 p)) else s)
theorem fTl_s {μ : Mem} {p : Int} {n : Nat} {k s : Int} : fTl μ p (n + 1) k s = fTl μ p n (k + 1) (if μ 146 k.toNat = p then iand s (ishl 1 ((sTw μ 32 p (μ 148 k.toNat) (gSd μ 32 p).toNat 0 - gArm μ 32 p (μ 147 k.toNat)) % gSd μ 32 p)) else s) := rfl
def fitT (μ : Mem) (p : Int) : Int := if gSd μ 32 p = 0 then 1 else fTl μ p (μ 144 4).toNat 0 (ishl 1 (gSd μ 32 p) - 1)
/-- the sightings in their bounds -/
def SOK (μ : Mem) : Prop := (0 ≤ μ 144 4 ∧ μ 144 4 ≤ 40) ∧ ∀ k j : Nat, 146 ≤ k → k ≤ 148 → inR (μ k j)
theorem sTw_rg {μ : Mem} {o : Nat} {p q : Int} : ∀ (n : Nat) (s : Int), 0 ≤ s → -1 ≤ sTw μ o p q n s ∧ sTw μ o p q n s < s + n + 1 := by
  intro n
  induction n with
  | zero => intro s hs; simp [sTw]; omega
  | succ n ih =>
    intro s hs
    have := ih (s + 1) (by omega)
    rw [sTw_s]; split <;> omega

set_option maxRecDepth 20000 in
theorem l_fitting {μ : Mem} (hL : LOK μ 32) (hA : ∀ p t, gArm μ 32 p t ≤ 5) (hA0 : ∀ p t, -1 ≤ gArm μ 32 p t) (hS : SOK μ) {p : Int} (hp : inR p) (h0 : ¬ gSd μ 32 p = 0) {R : Int} {X : ZX} (hX : isM X (fun w m => w = vi R ∧ m = μ)) : ∀ (n : Nat) (k s : Int) (y5 : AV), (k + n = μ 144 4) → (0 ≤ k) → (fTl μ p n k s = R) → V X mX8_fittingTurns 24 [vr 144, vi p, vi (gSd μ 32 p), vi s, vi k, y5] [] μ := by
  intro n
  induction n with
  | zero =>
    intro k s y5 h1 h2 hR
    obtain ⟨hS0, hS1⟩ := id hS
    have r1 := hS1 146 k.toNat (by decide) (by decide)
    have r2 := hS1 147 k.toNat (by decide) (by decide)
    have r3 := hS1 148 k.toNat (by decide) (by decide)
    have g1 := gSd_rg hL p
    have g2 := sTw_rg (μ := μ) (o := 32) (p := p) (q := μ 148 k.toNat) (gSd μ 32 p).toNat 0 (by omega)
    have g3 := gArm_rg hL p (μ 147 k.toNat)
    have g4 := hA p (μ 147 k.toNat)
    have g5 := hA0 p (μ 147 k.toNat)
    refine V_iload (pc := 24) dX8_fittingTurns_24 rfl ?_
    refine V_aloadn (pc := 26) dX8_fittingTurns_26 rfl ?_
    refine V_geti (r := 0) (pc := 27) dX8_fittingTurns_27 fX8_25 zk_144 ?_
    refine V_icmp_ge (pc := 30) (tgt := 101) dX8_fittingTurns_30 (by decide) (by omega) (by omega) (fun h30 => ?_) (fun h30 => ?_)
    · refine V_iloadn (pc := 101) dX8_fittingTurns_101 rfl ?_
      refine V_iret hX dX8_fittingTurns_102 rfl ?_
      exact ⟨congrArg vi hR, rfl⟩
    · exfalso; omega
  | succ n ih =>
    intro k s y5 h1 h2 hR
    obtain ⟨hS0, hS1⟩ := id hS
    have r1 := hS1 146 k.toNat (by decide) (by decide)
    have r2 := hS1 147 k.toNat (by decide) (by decide)
    have r3 := hS1 148 k.toNat (by decide) (by decide)
    have g1 := gSd_rg hL p
    have g2 := sTw_rg (μ := μ) (o := 32) (p := p) (q := μ 148 k.toNat) (gSd μ 32 p).toNat 0 (by omega)
    have g3 := gArm_rg hL p (μ 147 k.toNat)
    have g4 := hA p (μ 147 k.toNat)
    have g5 := hA0 p (μ 147 k.toNat)
    refine V_iload (pc := 24) dX8_fittingTurns_24 rfl ?_
    refine V_aloadn (pc := 26) dX8_fittingTurns_26 rfl ?_
    refine V_geti (r := 0) (pc := 27) dX8_fittingTurns_27 fX8_25 zk_144 ?_
    refine V_icmp_ge (pc := 30) (tgt := 101) dX8_fittingTurns_30 (by decide) (by omega) (by omega) (fun h30 => ?_) (fun h30 => ?_)
    · exfalso; omega
    · refine V_iload (pc := 33) dX8_fittingTurns_33 rfl ?_
      refine V_bipush (pc := 35) dX8_fittingTurns_35 (by decide +kernel) ?_
      refine V_icmp_ge (pc := 37) (tgt := 101) dX8_fittingTurns_37 (by decide) (by omega) (by decide) (fun h37 => ?_) (fun h37 => ?_)
      · exfalso; omega
      · refine V_aloadn (pc := 40) dX8_fittingTurns_40 rfl ?_
        refine V_getr (pc := 41) dX8_fittingTurns_41 fX8_9 zk_144 zr_144_1 ?_
        refine V_iload (pc := 44) dX8_fittingTurns_44 rfl ?_
        refine V_iald (pc := 46) dX8_fittingTurns_46 zk_146 (by omega) (by omega) (by decide) ?_
        refine V_iloadn (pc := 47) dX8_fittingTurns_47 rfl ?_
        refine V_icmp_ne (pc := 48) (tgt := 95) dX8_fittingTurns_48 (by decide) (by omega) (by omega) (fun h48 => ?_) (fun h48 => ?_)
        · refine V_iinc_4 (pc := 95) dX8_fittingTurns_95 (by decide) rfl ?_
          refine V_goto (pc := 98) (tgt := 24) dX8_fittingTurns_98 (by decide) ?_
          exact ih _ _ _ (by omega) (by omega) (by rw [← hR, fTl_s]; first | rw [if_pos (by omega)] | rw [if_neg (by omega)])
        · refine V_aloadn (pc := 51) dX8_fittingTurns_51 rfl ?_
          refine V_getr (pc := 52) dX8_fittingTurns_52 fX8_21 zk_144 zr_144_0 ?_
          refine V_iloadn (pc := 55) dX8_fittingTurns_55 rfl ?_
          refine V_aloadn (pc := 56) dX8_fittingTurns_56 rfl ?_
          refine V_getr (pc := 57) dX8_fittingTurns_57 fX8_18 zk_144 zr_144_3 ?_
          refine V_iload (pc := 60) dX8_fittingTurns_60 rfl ?_
          refine V_iald (pc := 62) dX8_fittingTurns_62 zk_148 (by omega) (by omega) (by decide) ?_
          refine V_cv2 (pc := 63) dX8_fittingTurns_63 kX8_35 zk_32 (by decide) (Nat.le_of_ble_eq_true rfl) (s_sideTowards LandAt_32 hL hp r3) rfl ?_
          refine V_aloadn (pc := 66) dX8_fittingTurns_66 rfl ?_
          refine V_getr (pc := 67) dX8_fittingTurns_67 fX8_21 zk_144 zr_144_0 ?_
          refine V_iloadn (pc := 70) dX8_fittingTurns_70 rfl ?_
          refine V_aloadn (pc := 71) dX8_fittingTurns_71 rfl ?_
          refine V_getr (pc := 72) dX8_fittingTurns_72 fX8_15 zk_144 zr_144_2 ?_
          refine V_iload (pc := 75) dX8_fittingTurns_75 rfl ?_
          refine V_iald (pc := 77) dX8_fittingTurns_77 zk_147 (by omega) (by omega) (by decide) ?_
          refine V_cv2 (pc := 78) dX8_fittingTurns_78 kX8_39 zk_32 (by decide) (Nat.le_of_ble_eq_true rfl) (s_trueArm LandAt_32 hL hp r2) rfl ?_
          refine V_isub (pc := 81) dX8_fittingTurns_81 ?_
          refine V_istore_5 (pc := 82) dX8_fittingTurns_82 (by decide) rfl ?_
          refine V_iloadn (pc := 84) dX8_fittingTurns_84 rfl ?_
          refine V_iconst (pc := 85) dX8_fittingTurns_85 ?_
          refine V_iload (pc := 86) dX8_fittingTurns_86 rfl ?_
          refine V_iloadn (pc := 88) dX8_fittingTurns_88 rfl ?_
          refine V_cs2 (pc := 89) dX8_fittingTurns_89 kX8_42 (by decide) (Nat.le_of_ble_eq_true rfl) (s_floorMod (by omega) (by omega) (by omega)) rfl ?_
          refine V_ishl (pc := 92) dX8_fittingTurns_92 ?_
          refine V_iand (pc := 93) dX8_fittingTurns_93 ?_
          refine V_istore_3 (pc := 94) dX8_fittingTurns_94 (by decide) rfl ?_
          refine V_iinc_4 (pc := 95) dX8_fittingTurns_95 (by decide) rfl ?_
          refine V_goto (pc := 98) (tgt := 24) dX8_fittingTurns_98 (by decide) ?_
          exact ih _ _ _ (by omega) (by omega) (by rw [← hR, fTl_s]; first | rw [if_pos (by omega)] | rw [if_neg (by omega)])

set_option maxRecDepth 20000 in
theorem s_fitting {μ : Mem} (hL : LOK μ 32) (hA : ∀ p t, gArm μ 32 p t ≤ 5) (hA0 : ∀ p t, -1 ≤ gArm μ 32 p t) (hS : SOK μ) {p : Int} (hp : inR p) : SP mX8_fittingTurns [vr 144, vi p] μ (fun w m => w = vi (fitT μ p) ∧ m = μ) := by
  refine SP_intro (ls := [vr 144, vi p, un, un, un, un]) (by decide +kernel) rfl rfl (Nat.le_of_ble_eq_true rfl) rfl (fun X hX => ?_)
  have g1 := gSd_rg hL p
  obtain ⟨hS0, hS1⟩ := id hS
  refine V_aloadn (pc := 0) dX8_fittingTurns_0 rfl ?_
  refine V_getr (pc := 1) dX8_fittingTurns_1 fX8_21 zk_144 zr_144_0 ?_
  refine V_iloadn (pc := 4) dX8_fittingTurns_4 rfl ?_
  refine V_cv1 (pc := 5) dX8_fittingTurns_5 kX8_29 zk_32 (by decide) (Nat.le_of_ble_eq_true rfl) (s_sidesOf LandAt_32 hL hp) rfl ?_
  refine V_istore_2 (pc := 8) dX8_fittingTurns_8 (by decide) rfl ?_
  refine V_iloadn (pc := 9) dX8_fittingTurns_9 rfl ?_
  refine V_if_ne (pc := 10) (tgt := 15) dX8_fittingTurns_10 (by decide) (by omega) (fun h10 => ?_) (fun h10 => ?_)
  · refine V_iconst (pc := 15) dX8_fittingTurns_15 ?_
    refine V_iloadn (pc := 16) dX8_fittingTurns_16 rfl ?_
    refine V_ishl (pc := 17) dX8_fittingTurns_17 ?_
    refine V_iconst (pc := 18) dX8_fittingTurns_18 ?_
    refine V_isub (pc := 19) dX8_fittingTurns_19 ?_
    refine V_istore_3 (pc := 20) dX8_fittingTurns_20 (by decide) rfl ?_
    refine V_iconst (pc := 21) dX8_fittingTurns_21 ?_
    refine V_istore_4 (pc := 22) dX8_fittingTurns_22 (by decide) rfl ?_
    exact l_fitting hL hA hA0 hS hp (by omega) hX (μ 144 4).toNat 0 _ _ (by omega) (by omega) (by unfold fitT; rw [if_neg (by omega)])
  · refine V_iconst (pc := 13) dX8_fittingTurns_13 ?_
    refine V_iret hX dX8_fittingTurns_14 rfl ?_
    exact ⟨congrArg vi (by unfold fitT; rw [if_pos (by omega)]), rfl⟩


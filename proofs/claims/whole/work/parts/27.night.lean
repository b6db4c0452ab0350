/-- the place beyond the side at which the true arm to t stands after k turns -/
def nxt (μ : Mem) (x t k : Int) : Int := gBy μ 32 x (gRd μ 32 x (sA μ x (gArm μ 32 x t) k))
def shL (μ : Mem) (rec : Int → Int → Int → Int → Int) (x been dep asi t : Int) : Nat → Int → Int → Int → Int → Int
  | 0, _, _, _, acc => acc
  | n + 1, k, left, tl, acc => if k = pT μ 80 x then shL μ rec x been dep asi t n (k + 1) left tl (acc + rec (nxt μ x t k) been asi (dep + 1))
    else shL μ rec x been dep asi t n (k + 1) (left - (if 0 < tl then left.tdiv tl else left)) (tl - 1) (acc + rec (nxt μ x t k) been (if 0 < tl then left.tdiv tl else left) (dep + 1))
theorem shL_s (μ : Mem) (rec : Int → Int → Int → Int → Int) (x been dep asi t : Int) (n : Nat) (k left tl acc : Int) : shL μ rec x been dep asi t (n + 1) k left tl acc = if k = pT μ 80 x then shL μ rec x been dep asi t n (k + 1) left tl (acc + rec (nxt μ x t k) been asi (dep + 1))
    else shL μ rec x been dep asi t n (k + 1) (left - (if 0 < tl then left.tdiv tl else left)) (tl - 1) (acc + rec (nxt μ x t k) been (if 0 < tl then left.tdiv tl else left) (dep + 1)) := rfl
def asI (μ : Mem) (x sh o : Int) : Int := if gSd μ 32 x = 1 then sh else (sh * (100 - o)).tdiv 100
def shT (μ : Mem) (t o : Int) : Nat → Int → Int → Int → Int → Int
  | 0, x, _, sh, _ => if x = t then sh else 0
  | n + 1, x, been, sh, dep => if x = t then sh else if sh = 0 ∨ 9 < dep ∨ In been x ∨ aT μ 80 x t 0 = -1 then 0 else shL μ (shT μ t o n) x (iorr been (ishl 1 x)) dep (asI μ x sh o) t (gSd μ 32 x).toNat 0 (sh - asI μ x sh o) (gSd μ 32 x - 1) 0
theorem tdiv_rg {a b : Int} (ha : 0 ≤ a) (hb : 0 < b) : 0 ≤ a.tdiv b ∧ a.tdiv b ≤ a := by
  rw [Int.tdiv_eq_ediv_of_nonneg ha]
  exact ⟨Int.ediv_nonneg ha (by omega), Int.ediv_le_self _ ha⟩
theorem asI_rg {μ : Mem} {x sh o : Int} (h0 : 0 ≤ sh) (ho : 0 ≤ o ∧ o ≤ 100) : 0 ≤ asI μ x sh o ∧ asI μ x sh o ≤ sh := by
  unfold asI
  split
  · omega
  · have h1 : 0 ≤ sh * (100 - o) := Int.mul_nonneg h0 (by omega)
    have h2 : sh * (100 - o) ≤ sh * 100 := Int.mul_le_mul_of_nonneg_left (by omega) h0
    rw [Int.tdiv_eq_ediv_of_nonneg h1]
    omega

set_option maxRecDepth 20000 in
theorem l_byTurns {μ : Mem} (hL : LOK μ 32) (hO : POK μ 80) (hA : ∀ p t, gArm μ 32 p t ≤ 5) (hT : inR (μ 128 2)) (hOd : 0 ≤ μ 128 3 ∧ μ 128 3 ≤ 100) (z : Nat) (ih0 : ∀ x been sh dep : Int, inR x → inR been → (0 ≤ sh ∧ sh ≤ 1000000000) → 0 ≤ dep → 10 ≤ dep + z → dep ≤ 20 → SP (mX5_shareThatComes z) [vr 128, vi x, vi been, vl sh, vi dep] μ (fun w m => w = vl (shT μ (μ 128 2) (μ 128 3) z x been sh dep) ∧ m = μ)) {x been dep sh asi : Int} (hx : inR x) (hb : inR been) (hd : 0 ≤ dep ∧ dep ≤ 12 ∧ 9 ≤ dep + z) (has : 0 ≤ asi ∧ asi ≤ 1000000000) {R : Int} {X : ZX} (hX : isM X (fun w m => w = vl R ∧ m = μ)) : ∀ (n : Nat) (k left tl acc : Int) (y15 y16 y17 y18 : AV), (k + n = gSd μ 32 x) → (0 ≤ k) → (0 ≤ left ∧ left ≤ 1000000000) → (-10 ≤ tl - n ∧ tl ≤ 5) → (shL μ (shT μ (μ 128 2) (μ 128 3) z) x been dep asi (μ 128 2) n k left tl acc = R) → V X (mX5_shareByTurns (z + 1)) 54 [vr 128, vi x, vi been, vl sh, un, vi dep, vi (gSd μ 32 x), vl asi, un, vl left, un, vi tl, vl acc, un, vi k, y15, y16, y17, y18] [] μ := by
  intro n
  induction n with
  | zero =>
    intro k left tl acc y15 y16 y17 y18 h1 h2 h3 h4 hR
    have g1 := gSd_rg hL x
    have g2 := pT_rg hO x
    have g3 := gArm_rg hL x (μ 128 2)
    have g4 := hA x (μ 128 2)
    have g5 := sA_rg hL x (gArm μ 32 x (μ 128 2)) k
    have g6 := gRd_rg hL x (sA μ x (gArm μ 32 x (μ 128 2)) k)
    have g7 := gBy_rg hL x (gRd μ 32 x (sA μ x (gArm μ 32 x (μ 128 2)) k))
    have g8 : 0 < tl → 0 ≤ left.tdiv tl ∧ left.tdiv tl ≤ left := fun h => tdiv_rg (by omega) h
    refine V_iload (pc := 54) dX5_shareByTurns_54 rfl ?_
    refine V_iload (pc := 56) dX5_shareByTurns_56 rfl ?_
    refine V_icmp_ge (pc := 58) (tgt := 174) dX5_shareByTurns_58 (by decide) (by omega) (by omega) (fun h58 => ?_) (fun h58 => ?_)
    · refine V_lload (pc := 174) dX5_shareByTurns_174 rfl ?_
      refine V_lret hX dX5_shareByTurns_176 rfl ?_
      exact ⟨congrArg vl hR, rfl⟩
    · exfalso; omega
  | succ n ih =>
    intro k left tl acc y15 y16 y17 y18 h1 h2 h3 h4 hR
    have g1 := gSd_rg hL x
    have g2 := pT_rg hO x
    have g3 := gArm_rg hL x (μ 128 2)
    have g4 := hA x (μ 128 2)
    have g5 := sA_rg hL x (gArm μ 32 x (μ 128 2)) k
    have g6 := gRd_rg hL x (sA μ x (gArm μ 32 x (μ 128 2)) k)
    have g7 := gBy_rg hL x (gRd μ 32 x (sA μ x (gArm μ 32 x (μ 128 2)) k))
    have g8 : 0 < tl → 0 ≤ left.tdiv tl ∧ left.tdiv tl ≤ left := fun h => tdiv_rg (by omega) h
    refine V_iload (pc := 54) dX5_shareByTurns_54 rfl ?_
    refine V_iload (pc := 56) dX5_shareByTurns_56 rfl ?_
    refine V_icmp_ge (pc := 58) (tgt := 174) dX5_shareByTurns_58 (by decide) (by omega) (by omega) (fun h58 => ?_) (fun h58 => ?_)
    · exfalso; omega
    · refine V_lload (pc := 61) dX5_shareByTurns_61 rfl ?_
      refine V_lstore_15 (pc := 63) dX5_shareByTurns_63 (show 16 < 19 by decide) rfl ?_
      refine V_iload (pc := 65) dX5_shareByTurns_65 rfl ?_
      refine V_aloadn (pc := 67) dX5_shareByTurns_67 rfl ?_
      refine V_getr (pc := 68) dX5_shareByTurns_68 fX5_15 zk_128 zr_128_1 ?_
      refine V_iloadn (pc := 71) dX5_shareByTurns_71 rfl ?_
      refine V_cv1 (pc := 72) dX5_shareByTurns_72 kX5_53 zk_80 (show 2 < 10 + 2 * (z + 1) by omega) (Nat.le_of_ble_eq_true rfl) (s_turnOf PostsAt_80 hL hO hx) rfl ?_
      refine V_icmp_eq (pc := 75) (tgt := 106) dX5_shareByTurns_75 (by decide) (by omega) (by omega) (fun h75 => ?_) (fun h75 => ?_)
      · refine V_aloadn (pc := 106) dX5_shareByTurns_106 rfl ?_
        refine V_getr (pc := 107) dX5_shareByTurns_107 fX5_15 zk_128 zr_128_1 ?_
        refine V_iloadn (pc := 110) dX5_shareByTurns_110 rfl ?_
        refine V_aloadn (pc := 111) dX5_shareByTurns_111 rfl ?_
        refine V_getr (pc := 112) dX5_shareByTurns_112 fX5_9 zk_128 zr_128_0 ?_
        refine V_iloadn (pc := 115) dX5_shareByTurns_115 rfl ?_
        refine V_aloadn (pc := 116) dX5_shareByTurns_116 rfl ?_
        refine V_geti (r := 0) (pc := 117) dX5_shareByTurns_117 fX5_19 zk_128 ?_
        refine V_cv2 (pc := 120) dX5_shareByTurns_120 kX5_56 zk_32 (show 2 < 10 + 2 * (z + 1) by omega) (Nat.le_of_ble_eq_true rfl) (s_trueArm LandAt_32 hL hx hT) rfl ?_
        refine V_iload (pc := 123) dX5_shareByTurns_123 rfl ?_
        refine V_cv3 (pc := 125) dX5_shareByTurns_125 kX5_60 zk_80 (show 3 < 10 + 2 * (z + 1) by omega) (Nat.le_of_ble_eq_true rfl) (s_sideOfArm PostsAt_80 hL hO hx (by omega)) rfl ?_
        refine V_istore_17 (pc := 128) dX5_shareByTurns_128 (show 17 < 19 by decide) rfl ?_
        refine V_aloadn (pc := 130) dX5_shareByTurns_130 rfl ?_
        refine V_getr (pc := 131) dX5_shareByTurns_131 fX5_9 zk_128 zr_128_0 ?_
        refine V_iloadn (pc := 134) dX5_shareByTurns_134 rfl ?_
        refine V_aloadn (pc := 135) dX5_shareByTurns_135 rfl ?_
        refine V_getr (pc := 136) dX5_shareByTurns_136 fX5_9 zk_128 zr_128_0 ?_
        refine V_iloadn (pc := 139) dX5_shareByTurns_139 rfl ?_
        refine V_iload (pc := 140) dX5_shareByTurns_140 rfl ?_
        refine V_cv2 (pc := 142) dX5_shareByTurns_142 kX5_63 zk_32 (show 3 < 10 + 2 * (z + 1) by omega) (Nat.le_of_ble_eq_true rfl) (s_roadAtSide LandAt_32 hL hx (by omega)) rfl ?_
        refine V_cv2 (pc := 145) dX5_shareByTurns_145 kX5_66 zk_32 (show 3 < 10 + 2 * (z + 1) by omega) (Nat.le_of_ble_eq_true rfl) (s_beyondRoad LandAt_32 hL hx (by omega)) rfl ?_
        refine V_istore_18 (pc := 148) dX5_shareByTurns_148 (show 18 < 19 by decide) rfl ?_
        refine V_lload (pc := 150) dX5_shareByTurns_150 rfl ?_
        refine V_aloadn (pc := 152) dX5_shareByTurns_152 rfl ?_
        refine V_iload (pc := 153) dX5_shareByTurns_153 rfl ?_
        refine V_iloadn (pc := 155) dX5_shareByTurns_155 rfl ?_
        refine V_lload (pc := 156) dX5_shareByTurns_156 rfl ?_
        refine V_iload (pc := 158) dX5_shareByTurns_158 rfl ?_
        refine V_iconst (pc := 160) dX5_shareByTurns_160 ?_
        refine V_iadd (pc := 161) dX5_shareByTurns_161 ?_
        refine V_cv4 (pc := 162) dX5_shareByTurns_162 (kX5_28 z) zk_128 (show 10 + 2 * z + 1 < 10 + 2 * (z + 1) by omega) (Nat.le_of_ble_eq_true rfl) (ih0 _ _ _ _ (by omega) hb (by omega) (by omega) (by omega) (by omega)) rfl ?_
        refine V_ladd (pc := 165) dX5_shareByTurns_165 ?_
        refine V_lstore_12 (pc := 166) dX5_shareByTurns_166 (show 13 < 19 by decide) rfl ?_
        refine V_iinc_14 (pc := 168) dX5_shareByTurns_168 (show 14 < 19 by decide) rfl ?_
        refine V_goto (pc := 171) (tgt := 54) dX5_shareByTurns_171 (by decide) ?_
        first
          | exact ih _ _ _ _ _ _ _ _ (by omega) (by omega) (by omega) (by omega) (by rw [← hR, shL_s, if_pos (by omega)]; rfl)
          | exact ih _ _ _ _ _ _ _ _ (by omega) (by omega) (by have := g8 (by omega); omega) (by omega) (by rw [← hR, shL_s, if_neg (by omega), if_pos (show 0 < tl by omega)]; rfl)
          | exact ih _ _ _ _ _ _ _ _ (by omega) (by omega) (by omega) (by omega) (by rw [← hR, shL_s, if_neg (by omega), if_neg (show ¬ 0 < tl by omega)]; rfl)
      · refine V_iload (pc := 78) dX5_shareByTurns_78 rfl ?_
        refine V_if_le (pc := 80) (tgt := 92) dX5_shareByTurns_80 (by decide) (by omega) (fun h80 => ?_) (fun h80 => ?_)
        · refine V_lload (pc := 92) dX5_shareByTurns_92 rfl ?_
          have g9 := g8
          refine V_lstore_15 (pc := 94) dX5_shareByTurns_94 (show 16 < 19 by decide) rfl ?_
          refine V_lload (pc := 96) dX5_shareByTurns_96 rfl ?_
          refine V_lload (pc := 98) dX5_shareByTurns_98 rfl ?_
          refine V_lsub (pc := 100) dX5_shareByTurns_100 ?_
          refine V_lstore_9 (pc := 101) dX5_shareByTurns_101 (show 10 < 19 by decide) rfl ?_
          refine V_iinc_11 (pc := 103) dX5_shareByTurns_103 (show 11 < 19 by decide) rfl ?_
          refine V_aloadn (pc := 106) dX5_shareByTurns_106 rfl ?_
          refine V_getr (pc := 107) dX5_shareByTurns_107 fX5_15 zk_128 zr_128_1 ?_
          refine V_iloadn (pc := 110) dX5_shareByTurns_110 rfl ?_
          refine V_aloadn (pc := 111) dX5_shareByTurns_111 rfl ?_
          refine V_getr (pc := 112) dX5_shareByTurns_112 fX5_9 zk_128 zr_128_0 ?_
          refine V_iloadn (pc := 115) dX5_shareByTurns_115 rfl ?_
          refine V_aloadn (pc := 116) dX5_shareByTurns_116 rfl ?_
          refine V_geti (r := 0) (pc := 117) dX5_shareByTurns_117 fX5_19 zk_128 ?_
          refine V_cv2 (pc := 120) dX5_shareByTurns_120 kX5_56 zk_32 (show 2 < 10 + 2 * (z + 1) by omega) (Nat.le_of_ble_eq_true rfl) (s_trueArm LandAt_32 hL hx hT) rfl ?_
          refine V_iload (pc := 123) dX5_shareByTurns_123 rfl ?_
          refine V_cv3 (pc := 125) dX5_shareByTurns_125 kX5_60 zk_80 (show 3 < 10 + 2 * (z + 1) by omega) (Nat.le_of_ble_eq_true rfl) (s_sideOfArm PostsAt_80 hL hO hx (by omega)) rfl ?_
          refine V_istore_17 (pc := 128) dX5_shareByTurns_128 (show 17 < 19 by decide) rfl ?_
          refine V_aloadn (pc := 130) dX5_shareByTurns_130 rfl ?_
          refine V_getr (pc := 131) dX5_shareByTurns_131 fX5_9 zk_128 zr_128_0 ?_
          refine V_iloadn (pc := 134) dX5_shareByTurns_134 rfl ?_
          refine V_aloadn (pc := 135) dX5_shareByTurns_135 rfl ?_
          refine V_getr (pc := 136) dX5_shareByTurns_136 fX5_9 zk_128 zr_128_0 ?_
          refine V_iloadn (pc := 139) dX5_shareByTurns_139 rfl ?_
          refine V_iload (pc := 140) dX5_shareByTurns_140 rfl ?_
          refine V_cv2 (pc := 142) dX5_shareByTurns_142 kX5_63 zk_32 (show 3 < 10 + 2 * (z + 1) by omega) (Nat.le_of_ble_eq_true rfl) (s_roadAtSide LandAt_32 hL hx (by omega)) rfl ?_
          refine V_cv2 (pc := 145) dX5_shareByTurns_145 kX5_66 zk_32 (show 3 < 10 + 2 * (z + 1) by omega) (Nat.le_of_ble_eq_true rfl) (s_beyondRoad LandAt_32 hL hx (by omega)) rfl ?_
          refine V_istore_18 (pc := 148) dX5_shareByTurns_148 (show 18 < 19 by decide) rfl ?_
          refine V_lload (pc := 150) dX5_shareByTurns_150 rfl ?_
          refine V_aloadn (pc := 152) dX5_shareByTurns_152 rfl ?_
          refine V_iload (pc := 153) dX5_shareByTurns_153 rfl ?_
          refine V_iloadn (pc := 155) dX5_shareByTurns_155 rfl ?_
          refine V_lload (pc := 156) dX5_shareByTurns_156 rfl ?_
          refine V_iload (pc := 158) dX5_shareByTurns_158 rfl ?_
          refine V_iconst (pc := 160) dX5_shareByTurns_160 ?_
          refine V_iadd (pc := 161) dX5_shareByTurns_161 ?_
          refine V_cv4 (pc := 162) dX5_shareByTurns_162 (kX5_28 z) zk_128 (show 10 + 2 * z + 1 < 10 + 2 * (z + 1) by omega) (Nat.le_of_ble_eq_true rfl) (ih0 _ _ _ _ (by omega) hb (by omega) (by omega) (by omega) (by omega)) rfl ?_
          refine V_ladd (pc := 165) dX5_shareByTurns_165 ?_
          refine V_lstore_12 (pc := 166) dX5_shareByTurns_166 (show 13 < 19 by decide) rfl ?_
          refine V_iinc_14 (pc := 168) dX5_shareByTurns_168 (show 14 < 19 by decide) rfl ?_
          refine V_goto (pc := 171) (tgt := 54) dX5_shareByTurns_171 (by decide) ?_
          first
            | exact ih _ _ _ _ _ _ _ _ (by omega) (by omega) (by omega) (by omega) (by rw [← hR, shL_s, if_pos (by omega)]; rfl)
            | exact ih _ _ _ _ _ _ _ _ (by omega) (by omega) (by have := g8 (by omega); omega) (by omega) (by rw [← hR, shL_s, if_neg (by omega), if_pos (show 0 < tl by omega)]; rfl)
            | exact ih _ _ _ _ _ _ _ _ (by omega) (by omega) (by omega) (by omega) (by rw [← hR, shL_s, if_neg (by omega), if_neg (show ¬ 0 < tl by omega)]; rfl)
        · refine V_lload (pc := 83) dX5_shareByTurns_83 rfl ?_
          refine V_iload (pc := 85) dX5_shareByTurns_85 rfl ?_
          refine V_i2l (pc := 87) dX5_shareByTurns_87 (by omega) ?_
          refine V_ldiv (pc := 88) dX5_shareByTurns_88 (by omega) (by omega) (by omega) (by have := g8 (by omega); omega) ?_
          refine V_goto (pc := 89) (tgt := 94) dX5_shareByTurns_89 (by decide) ?_
          have g9 := g8
          refine V_lstore_15 (pc := 94) dX5_shareByTurns_94 (show 16 < 19 by decide) rfl ?_
          refine V_lload (pc := 96) dX5_shareByTurns_96 rfl ?_
          refine V_lload (pc := 98) dX5_shareByTurns_98 rfl ?_
          refine V_lsub (pc := 100) dX5_shareByTurns_100 ?_
          refine V_lstore_9 (pc := 101) dX5_shareByTurns_101 (show 10 < 19 by decide) rfl ?_
          refine V_iinc_11 (pc := 103) dX5_shareByTurns_103 (show 11 < 19 by decide) rfl ?_
          refine V_aloadn (pc := 106) dX5_shareByTurns_106 rfl ?_
          refine V_getr (pc := 107) dX5_shareByTurns_107 fX5_15 zk_128 zr_128_1 ?_
          refine V_iloadn (pc := 110) dX5_shareByTurns_110 rfl ?_
          refine V_aloadn (pc := 111) dX5_shareByTurns_111 rfl ?_
          refine V_getr (pc := 112) dX5_shareByTurns_112 fX5_9 zk_128 zr_128_0 ?_
          refine V_iloadn (pc := 115) dX5_shareByTurns_115 rfl ?_
          refine V_aloadn (pc := 116) dX5_shareByTurns_116 rfl ?_
          refine V_geti (r := 0) (pc := 117) dX5_shareByTurns_117 fX5_19 zk_128 ?_
          refine V_cv2 (pc := 120) dX5_shareByTurns_120 kX5_56 zk_32 (show 2 < 10 + 2 * (z + 1) by omega) (Nat.le_of_ble_eq_true rfl) (s_trueArm LandAt_32 hL hx hT) rfl ?_
          refine V_iload (pc := 123) dX5_shareByTurns_123 rfl ?_
          refine V_cv3 (pc := 125) dX5_shareByTurns_125 kX5_60 zk_80 (show 3 < 10 + 2 * (z + 1) by omega) (Nat.le_of_ble_eq_true rfl) (s_sideOfArm PostsAt_80 hL hO hx (by omega)) rfl ?_
          refine V_istore_17 (pc := 128) dX5_shareByTurns_128 (show 17 < 19 by decide) rfl ?_
          refine V_aloadn (pc := 130) dX5_shareByTurns_130 rfl ?_
          refine V_getr (pc := 131) dX5_shareByTurns_131 fX5_9 zk_128 zr_128_0 ?_
          refine V_iloadn (pc := 134) dX5_shareByTurns_134 rfl ?_
          refine V_aloadn (pc := 135) dX5_shareByTurns_135 rfl ?_
          refine V_getr (pc := 136) dX5_shareByTurns_136 fX5_9 zk_128 zr_128_0 ?_
          refine V_iloadn (pc := 139) dX5_shareByTurns_139 rfl ?_
          refine V_iload (pc := 140) dX5_shareByTurns_140 rfl ?_
          refine V_cv2 (pc := 142) dX5_shareByTurns_142 kX5_63 zk_32 (show 3 < 10 + 2 * (z + 1) by omega) (Nat.le_of_ble_eq_true rfl) (s_roadAtSide LandAt_32 hL hx (by omega)) rfl ?_
          refine V_cv2 (pc := 145) dX5_shareByTurns_145 kX5_66 zk_32 (show 3 < 10 + 2 * (z + 1) by omega) (Nat.le_of_ble_eq_true rfl) (s_beyondRoad LandAt_32 hL hx (by omega)) rfl ?_
          refine V_istore_18 (pc := 148) dX5_shareByTurns_148 (show 18 < 19 by decide) rfl ?_
          refine V_lload (pc := 150) dX5_shareByTurns_150 rfl ?_
          refine V_aloadn (pc := 152) dX5_shareByTurns_152 rfl ?_
          refine V_iload (pc := 153) dX5_shareByTurns_153 rfl ?_
          refine V_iloadn (pc := 155) dX5_shareByTurns_155 rfl ?_
          refine V_lload (pc := 156) dX5_shareByTurns_156 rfl ?_
          refine V_iload (pc := 158) dX5_shareByTurns_158 rfl ?_
          refine V_iconst (pc := 160) dX5_shareByTurns_160 ?_
          refine V_iadd (pc := 161) dX5_shareByTurns_161 ?_
          refine V_cv4 (pc := 162) dX5_shareByTurns_162 (kX5_28 z) zk_128 (show 10 + 2 * z + 1 < 10 + 2 * (z + 1) by omega) (Nat.le_of_ble_eq_true rfl) (ih0 _ _ _ _ (by omega) hb (by omega) (by omega) (by omega) (by omega)) rfl ?_
          refine V_ladd (pc := 165) dX5_shareByTurns_165 ?_
          refine V_lstore_12 (pc := 166) dX5_shareByTurns_166 (show 13 < 19 by decide) rfl ?_
          refine V_iinc_14 (pc := 168) dX5_shareByTurns_168 (show 14 < 19 by decide) rfl ?_
          refine V_goto (pc := 171) (tgt := 54) dX5_shareByTurns_171 (by decide) ?_
          first
            | exact ih _ _ _ _ _ _ _ _ (by omega) (by omega) (by omega) (by omega) (by rw [← hR, shL_s, if_pos (by omega)]; rfl)
            | exact ih _ _ _ _ _ _ _ _ (by omega) (by omega) (by have := g8 (by omega); omega) (by omega) (by rw [← hR, shL_s, if_neg (by omega), if_pos (show 0 < tl by omega)]; rfl)
            | exact ih _ _ _ _ _ _ _ _ (by omega) (by omega) (by omega) (by omega) (by rw [← hR, shL_s, if_neg (by omega), if_neg (show ¬ 0 < tl by omega)]; rfl)

set_option maxRecDepth 20000 in
theorem s_byTurns {μ : Mem} (hL : LOK μ 32) (hO : POK μ 80) (hA : ∀ p t, gArm μ 32 p t ≤ 5) (hT : inR (μ 128 2)) (hOd : 0 ≤ μ 128 3 ∧ μ 128 3 ≤ 100) (z : Nat) (ih0 : ∀ x been sh dep : Int, inR x → inR been → (0 ≤ sh ∧ sh ≤ 1000000000) → 0 ≤ dep → 10 ≤ dep + z → dep ≤ 20 → SP (mX5_shareThatComes z) [vr 128, vi x, vi been, vl sh, vi dep] μ (fun w m => w = vl (shT μ (μ 128 2) (μ 128 3) z x been sh dep) ∧ m = μ)) {x been dep sh : Int} (hx : inR x) (hb : inR been) (hd : 0 ≤ dep ∧ dep ≤ 12 ∧ 9 ≤ dep + z) (hs : 0 ≤ sh ∧ sh ≤ 1000000000) : SP (mX5_shareByTurns (z + 1)) [vr 128, vi x, vi been, vl sh, vi dep] μ (fun w m => w = vl (shL μ (shT μ (μ 128 2) (μ 128 3) z) x been dep (asI μ x sh (μ 128 3)) (μ 128 2) (gSd μ 32 x).toNat 0 (sh - asI μ x sh (μ 128 3)) (gSd μ 32 x - 1) 0) ∧ m = μ) := by
  refine SP_intro (ls := [vr 128, vi x, vi been, vl sh, un, vi dep, un, un, un, un, un, un, un, un, un, un, un, un, un]) (show plainName RX5 = true by decide +kernel) rfl rfl (Nat.le_of_ble_eq_true rfl) rfl (fun X hX => ?_)
  have g1 := gSd_rg hL x
  have g2 := asI_rg (μ := μ) (x := x) hs.1 hOd
  have g3 : 0 ≤ sh * (100 - μ 128 3) := Int.mul_nonneg hs.1 (by omega)
  have g4 : sh * (100 - μ 128 3) ≤ sh * 100 := Int.mul_le_mul_of_nonneg_left (by omega) hs.1
  have g5 := tdiv_rg g3 (show (0 : Int) < 100 by decide)
  refine V_aloadn (pc := 0) dX5_shareByTurns_0 rfl ?_
  refine V_getr (pc := 1) dX5_shareByTurns_1 fX5_9 zk_128 zr_128_0 ?_
  refine V_iloadn (pc := 4) dX5_shareByTurns_4 rfl ?_
  refine V_cv1 (pc := 5) dX5_shareByTurns_5 kX5_45 zk_32 (show 2 < 10 + 2 * (z + 1) by omega) (Nat.le_of_ble_eq_true rfl) (s_sidesOf LandAt_32 hL hx) rfl ?_
  refine V_istore_6 (pc := 8) dX5_shareByTurns_8 (show 6 < 19 by decide) rfl ?_
  refine V_iload (pc := 10) dX5_shareByTurns_10 rfl ?_
  refine V_iconst (pc := 12) dX5_shareByTurns_12 ?_
  refine V_icmp_ne (pc := 13) (tgt := 20) dX5_shareByTurns_13 (by decide) (by omega) (by decide) (fun h13 => ?_) (fun h13 => ?_)
  · refine V_lloadn (pc := 20) dX5_shareByTurns_20 rfl ?_
    refine V_bipush (pc := 21) dX5_shareByTurns_21 (by decide +kernel) ?_
    refine V_aloadn (pc := 23) dX5_shareByTurns_23 rfl ?_
    refine V_geti (r := 0) (pc := 24) dX5_shareByTurns_24 fX5_23 zk_128 ?_
    refine V_isub (pc := 27) dX5_shareByTurns_27 ?_
    refine V_i2l (pc := 28) dX5_shareByTurns_28 (by omega) ?_
    refine V_lmul (pc := 29) dX5_shareByTurns_29 ?_
    refine V_ldc2 (pc := 30) (n := 100) dX5_shareByTurns_30 nX5_51 (by decide) ?_
    refine V_ldiv (pc := 33) dX5_shareByTurns_33 (by omega) (by omega) (by omega) (by omega) ?_
    refine V_lstore_7 (pc := 34) dX5_shareByTurns_34 (show 8 < 19 by decide) rfl ?_
    refine V_lloadn (pc := 36) dX5_shareByTurns_36 rfl ?_
    refine V_lload (pc := 37) dX5_shareByTurns_37 rfl ?_
    refine V_lsub (pc := 39) dX5_shareByTurns_39 ?_
    refine V_lstore_9 (pc := 40) dX5_shareByTurns_40 (show 10 < 19 by decide) rfl ?_
    refine V_iload (pc := 42) dX5_shareByTurns_42 rfl ?_
    refine V_iconst (pc := 44) dX5_shareByTurns_44 ?_
    refine V_isub (pc := 45) dX5_shareByTurns_45 ?_
    refine V_istore_11 (pc := 46) dX5_shareByTurns_46 (show 11 < 19 by decide) rfl ?_
    refine V_lconst0 (pc := 48) dX5_shareByTurns_48 ?_
    refine V_lstore_12 (pc := 49) dX5_shareByTurns_49 (show 13 < 19 by decide) rfl ?_
    refine V_iconst (pc := 51) dX5_shareByTurns_51 ?_
    refine V_istore_14 (pc := 52) dX5_shareByTurns_52 (show 14 < 19 by decide) rfl ?_
    first
      | exact l_byTurns hL hO hA hT hOd z ih0 hx hb hd (asi := asI μ x sh (μ 128 3)) (by omega) hX (gSd μ 32 x).toNat 0 (sh - asI μ x sh (μ 128 3)) _ 0 _ _ _ _ (by omega) (by omega) (by omega) (by omega) rfl
      | (have e : asI μ x sh (μ 128 3) = sh := by unfold asI; rw [if_pos (by omega)]
         rw [← e]
         refine cast ?_ (l_byTurns (sh := sh) hL hO hA hT hOd z ih0 hx hb hd (asi := asI μ x sh (μ 128 3)) (by omega) hX (gSd μ 32 x).toNat 0 (sh - asI μ x sh (μ 128 3)) (gSd μ 32 x - 1) 0 un un un un (by omega) (by omega) (by omega) (by omega) rfl)
         rw [e])
      | (have e : asI μ x sh (μ 128 3) = (sh * (100 - μ 128 3)).tdiv 100 := by unfold asI; rw [if_neg (by omega)]
         rw [← e]
         exact l_byTurns hL hO hA hT hOd z ih0 hx hb hd (asi := asI μ x sh (μ 128 3)) (by omega) hX (gSd μ 32 x).toNat 0 (sh - asI μ x sh (μ 128 3)) _ 0 _ _ _ _ (by omega) (by omega) (by omega) (by omega) rfl)
  · refine V_lloadn (pc := 16) dX5_shareByTurns_16 rfl ?_
    refine V_goto (pc := 17) (tgt := 34) dX5_shareByTurns_17 (by decide) ?_
    refine V_lstore_7 (pc := 34) dX5_shareByTurns_34 (show 8 < 19 by decide) rfl ?_
    refine V_lloadn (pc := 36) dX5_shareByTurns_36 rfl ?_
    refine V_lload (pc := 37) dX5_shareByTurns_37 rfl ?_
    refine V_lsub (pc := 39) dX5_shareByTurns_39 ?_
    refine V_lstore_9 (pc := 40) dX5_shareByTurns_40 (show 10 < 19 by decide) rfl ?_
    refine V_iload (pc := 42) dX5_shareByTurns_42 rfl ?_
    refine V_iconst (pc := 44) dX5_shareByTurns_44 ?_
    refine V_isub (pc := 45) dX5_shareByTurns_45 ?_
    refine V_istore_11 (pc := 46) dX5_shareByTurns_46 (show 11 < 19 by decide) rfl ?_
    refine V_lconst0 (pc := 48) dX5_shareByTurns_48 ?_
    refine V_lstore_12 (pc := 49) dX5_shareByTurns_49 (show 13 < 19 by decide) rfl ?_
    refine V_iconst (pc := 51) dX5_shareByTurns_51 ?_
    refine V_istore_14 (pc := 52) dX5_shareByTurns_52 (show 14 < 19 by decide) rfl ?_
    first
      | exact l_byTurns hL hO hA hT hOd z ih0 hx hb hd (asi := asI μ x sh (μ 128 3)) (by omega) hX (gSd μ 32 x).toNat 0 (sh - asI μ x sh (μ 128 3)) _ 0 _ _ _ _ (by omega) (by omega) (by omega) (by omega) rfl
      | (have e : asI μ x sh (μ 128 3) = sh := by unfold asI; rw [if_pos (by omega)]
         rw [← e]
         refine cast ?_ (l_byTurns (sh := sh) hL hO hA hT hOd z ih0 hx hb hd (asi := asI μ x sh (μ 128 3)) (by omega) hX (gSd μ 32 x).toNat 0 (sh - asI μ x sh (μ 128 3)) (gSd μ 32 x - 1) 0 un un un un (by omega) (by omega) (by omega) (by omega) rfl)
         rw [e])
      | (have e : asI μ x sh (μ 128 3) = (sh * (100 - μ 128 3)).tdiv 100 := by unfold asI; rw [if_neg (by omega)]
         rw [← e]
         exact l_byTurns hL hO hA hT hOd z ih0 hx hb hd (asi := asI μ x sh (μ 128 3)) (by omega) hX (gSd μ 32 x).toNat 0 (sh - asI μ x sh (μ 128 3)) _ 0 _ _ _ _ (by omega) (by omega) (by omega) (by omega) rfl)

theorem lcm_0 (a : Int) : lcm a 0 = 0 ↔ a = 0 := by unfold lcm; split <;> (try split) <;> omega
set_option maxRecDepth 20000 in
theorem s_share {μ : Mem} (hL : LOK μ 32) (hO : POK μ 80) (hA : ∀ p t, gArm μ 32 p t ≤ 5) (hT : inR (μ 128 2)) (hOd : 0 ≤ μ 128 3 ∧ μ 128 3 ≤ 100) : ∀ (z : Nat) (x been sh dep : Int), inR x → inR been → (0 ≤ sh ∧ sh ≤ 1000000000) → 0 ≤ dep → 10 ≤ dep + z → dep ≤ 20 → SP (mX5_shareThatComes z) [vr 128, vi x, vi been, vl sh, vi dep] μ (fun w m => w = vl (shT μ (μ 128 2) (μ 128 3) z x been sh dep) ∧ m = μ) := by
  intro z
  induction z with
  | zero =>
    intro x been sh dep hx hb hs hd0 hd1 hd2
    refine SP_intro (ls := [vr 128, vi x, vi been, vl sh, un, vi dep, un]) (show plainName RX5 = true by decide +kernel) rfl rfl (Nat.le_of_ble_eq_true rfl) rfl (fun X hX => ?_)
    have g1 := aT_rg (o := 80) hL x (μ 128 2) 0
    refine V_iloadn (pc := 0) dX5_shareThatComes_0 rfl ?_
    refine V_aloadn (pc := 1) dX5_shareThatComes_1 rfl ?_
    refine V_geti (r := 0) (pc := 2) dX5_shareThatComes_2 fX5_19 zk_128 ?_
    refine V_icmp_ne (pc := 5) (tgt := 10) dX5_shareThatComes_5 (by decide) (by omega) (by omega) (fun h5 => ?_) (fun h5 => ?_)
    · refine V_aloadn (pc := 10) dX5_shareThatComes_10 rfl ?_
      refine V_getr (pc := 11) dX5_shareThatComes_11 fX5_15 zk_128 zr_128_1 ?_
      refine V_iloadn (pc := 14) dX5_shareThatComes_14 rfl ?_
      refine V_aloadn (pc := 15) dX5_shareThatComes_15 rfl ?_
      refine V_geti (r := 0) (pc := 16) dX5_shareThatComes_16 fX5_19 zk_128 ?_
      refine V_iconst (pc := 19) dX5_shareThatComes_19 ?_
      refine V_cv3 (pc := 20) dX5_shareThatComes_20 kX5_32 zk_80 (show 3 < 10 + 2 * 0 + 1 by omega) (Nat.le_of_ble_eq_true rfl) (s_armThatTells PostsAt_80 hL hO hx hT (by decide)) rfl ?_
      refine V_istore_6 (pc := 23) dX5_shareThatComes_23 (show 6 < 7 by decide) rfl ?_
      refine V_lloadn (pc := 25) dX5_shareThatComes_25 rfl ?_
      refine V_lconst0 (pc := 26) dX5_shareThatComes_26 ?_
      refine V_lcmp (pc := 27) dX5_shareThatComes_27 (by omega) (by omega) ?_
      have gl := lcm_0 sh
      have gr : inR (lcm sh 0) := by unfold lcm; split; decide; split <;> decide
      refine V_if_eq (pc := 28) (tgt := 52) dX5_shareThatComes_28 (by decide) (by omega) (fun h28 => ?_) (fun h28 => ?_)
      · refine V_lconst0 (pc := 52) dX5_shareThatComes_52 ?_
        refine V_lret hX dX5_shareThatComes_53 rfl ?_
        refine ⟨congrArg vl ?_, rfl⟩
        first | (simp only [shT]; rw [if_pos (by omega)]; done) | (simp only [shT]; rw [if_neg (by omega)])
      · refine V_iload (pc := 31) dX5_shareThatComes_31 rfl ?_
        refine V_bipush (pc := 33) dX5_shareThatComes_33 (by decide +kernel) ?_
        refine V_icmp_gt (pc := 35) (tgt := 52) dX5_shareThatComes_35 (by decide) (by omega) (by decide) (fun h35 => ?_) (fun h35 => ?_)
        · refine V_lconst0 (pc := 52) dX5_shareThatComes_52 ?_
          refine V_lret hX dX5_shareThatComes_53 rfl ?_
          refine ⟨congrArg vl ?_, rfl⟩
          first | (simp only [shT]; rw [if_pos (by omega)]; done) | (simp only [shT]; rw [if_neg (by omega)])
        · exfalso; omega
    · refine V_lloadn (pc := 8) dX5_shareThatComes_8 rfl ?_
      refine V_lret hX dX5_shareThatComes_9 rfl ?_
      refine ⟨congrArg vl ?_, rfl⟩
      first | (simp only [shT]; rw [if_pos (by omega)]; done) | (simp only [shT]; rw [if_neg (by omega)])
  | succ z ih =>
    intro x been sh dep hx hb hs hd0 hd1 hd2
    refine SP_intro (ls := [vr 128, vi x, vi been, vl sh, un, vi dep, un]) (show plainName RX5 = true by decide +kernel) rfl rfl (Nat.le_of_ble_eq_true rfl) rfl (fun X hX => ?_)
    have g1 := aT_rg (o := 80) hL x (μ 128 2) 0
    refine V_iloadn (pc := 0) dX5_shareThatComes_0 rfl ?_
    refine V_aloadn (pc := 1) dX5_shareThatComes_1 rfl ?_
    refine V_geti (r := 0) (pc := 2) dX5_shareThatComes_2 fX5_19 zk_128 ?_
    refine V_icmp_ne (pc := 5) (tgt := 10) dX5_shareThatComes_5 (by decide) (by omega) (by omega) (fun h5 => ?_) (fun h5 => ?_)
    · refine V_aloadn (pc := 10) dX5_shareThatComes_10 rfl ?_
      refine V_getr (pc := 11) dX5_shareThatComes_11 fX5_15 zk_128 zr_128_1 ?_
      refine V_iloadn (pc := 14) dX5_shareThatComes_14 rfl ?_
      refine V_aloadn (pc := 15) dX5_shareThatComes_15 rfl ?_
      refine V_geti (r := 0) (pc := 16) dX5_shareThatComes_16 fX5_19 zk_128 ?_
      refine V_iconst (pc := 19) dX5_shareThatComes_19 ?_
      refine V_cv3 (pc := 20) dX5_shareThatComes_20 kX5_32 zk_80 (show 3 < 10 + 2 * (z + 1) + 1 by omega) (Nat.le_of_ble_eq_true rfl) (s_armThatTells PostsAt_80 hL hO hx hT (by decide)) rfl ?_
      refine V_istore_6 (pc := 23) dX5_shareThatComes_23 (show 6 < 7 by decide) rfl ?_
      refine V_lloadn (pc := 25) dX5_shareThatComes_25 rfl ?_
      refine V_lconst0 (pc := 26) dX5_shareThatComes_26 ?_
      refine V_lcmp (pc := 27) dX5_shareThatComes_27 (by omega) (by omega) ?_
      have gl := lcm_0 sh
      have gr : inR (lcm sh 0) := by unfold lcm; split; decide; split <;> decide
      refine V_if_eq (pc := 28) (tgt := 52) dX5_shareThatComes_28 (by decide) (by omega) (fun h28 => ?_) (fun h28 => ?_)
      · refine V_lconst0 (pc := 52) dX5_shareThatComes_52 ?_
        refine V_lret hX dX5_shareThatComes_53 rfl ?_
        refine ⟨congrArg vl ?_, rfl⟩
        first | (simp only [shT]; rw [if_pos (by omega)]; done) | (simp only [shT]; rw [if_neg (by omega), if_pos (by omega)]; done) | (simp only [shT]; rw [if_neg (by omega), if_neg (by omega)])
      · refine V_iload (pc := 31) dX5_shareThatComes_31 rfl ?_
        refine V_bipush (pc := 33) dX5_shareThatComes_33 (by decide +kernel) ?_
        refine V_icmp_gt (pc := 35) (tgt := 52) dX5_shareThatComes_35 (by decide) (by omega) (by decide) (fun h35 => ?_) (fun h35 => ?_)
        · refine V_lconst0 (pc := 52) dX5_shareThatComes_52 ?_
          refine V_lret hX dX5_shareThatComes_53 rfl ?_
          refine ⟨congrArg vl ?_, rfl⟩
          first | (simp only [shT]; rw [if_pos (by omega)]; done) | (simp only [shT]; rw [if_neg (by omega), if_pos (by omega)]; done) | (simp only [shT]; rw [if_neg (by omega), if_neg (by omega)])
        · refine V_iloadn (pc := 38) dX5_shareThatComes_38 rfl ?_
          refine V_iloadn (pc := 39) dX5_shareThatComes_39 rfl ?_
          refine V_cn2 (pc := 40) dX5_shareThatComes_40 kX5_38 (show 1 < 10 + 2 * (z + 1) + 1 by omega) (Nat.le_of_ble_eq_true rfl) (s_isIn hb hx) rfl ?_
          refine V_ifne_b (pc := 43) (tgt := 52) dX5_shareThatComes_43 (by decide) (fun h43 => ?_) (fun h43 => ?_)
          · refine V_lconst0 (pc := 52) dX5_shareThatComes_52 ?_
            refine V_lret hX dX5_shareThatComes_53 rfl ?_
            refine ⟨congrArg vl ?_, rfl⟩
            first | (simp only [shT]; rw [if_pos (by omega)]; done) | (simp only [shT]; rw [if_neg (by omega), if_pos (by omega)]; done) | (simp only [shT]; rw [if_neg (by omega), if_neg (by omega)])
          · refine V_iload (pc := 46) dX5_shareThatComes_46 rfl ?_
            refine V_iconst (pc := 48) dX5_shareThatComes_48 ?_
            refine V_icmp_ne (pc := 49) (tgt := 54) dX5_shareThatComes_49 (by decide) (by omega) (by decide) (fun h49 => ?_) (fun h49 => ?_)
            · refine V_aloadn (pc := 54) dX5_shareThatComes_54 rfl ?_
              refine V_iloadn (pc := 55) dX5_shareThatComes_55 rfl ?_
              refine V_iloadn (pc := 56) dX5_shareThatComes_56 rfl ?_
              refine V_iconst (pc := 57) dX5_shareThatComes_57 ?_
              refine V_iloadn (pc := 58) dX5_shareThatComes_58 rfl ?_
              refine V_ishl (pc := 59) dX5_shareThatComes_59 ?_
              refine V_ior (pc := 60) dX5_shareThatComes_60 ?_
              refine V_lloadn (pc := 61) dX5_shareThatComes_61 rfl ?_
              refine V_iload (pc := 62) dX5_shareThatComes_62 rfl ?_
              refine V_cv4 (pc := 64) dX5_shareThatComes_64 (kX5_42 (z + 1)) zk_128 (show 10 + 2 * (z + 1) < 10 + 2 * (z + 1) + 1 by omega) (Nat.le_of_ble_eq_true rfl) (s_byTurns hL hO hA hT hOd z ih hx (zi_rg _) (by omega) (by omega)) rfl ?_
              refine V_lret hX dX5_shareThatComes_67 rfl ?_
              refine ⟨congrArg vl ?_, rfl⟩
              first | (simp only [shT]; rw [if_pos (by omega)]; done) | (simp only [shT]; rw [if_neg (by omega), if_pos (by omega)]; done) | (simp only [shT]; rw [if_neg (by omega), if_neg (by omega)])
            · refine V_lconst0 (pc := 52) dX5_shareThatComes_52 ?_
              refine V_lret hX dX5_shareThatComes_53 rfl ?_
              refine ⟨congrArg vl ?_, rfl⟩
              first | (simp only [shT]; rw [if_pos (by omega)]; done) | (simp only [shT]; rw [if_neg (by omega), if_pos (by omega)]; done) | (simp only [shT]; rw [if_neg (by omega), if_neg (by omega)])
    · refine V_lloadn (pc := 8) dX5_shareThatComes_8 rfl ?_
      refine V_lret hX dX5_shareThatComes_9 rfl ?_
      refine ⟨congrArg vl ?_, rfl⟩
      first | (simp only [shT]; rw [if_pos (by omega)]; done) | (simp only [shT]; rw [if_neg (by omega), if_pos (by omega)]; done) | (simp only [shT]; rw [if_neg (by omega), if_neg (by omega)])


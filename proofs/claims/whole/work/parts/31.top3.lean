def mkU (μ : Mem) (t : Int) (wy : Row) : Nat → Nat → Row → Row
  | 0, _, U => U
  | n + 1, k, U => mkU μ t wy n (k + 1) (if (0 ≤ wy k ∧ wy k < μ 32 0) ∧ ¬ gArm μ 32 (wy k) t = -1 then up U (wy k).toNat (iorr (U (wy k).toNat) (ishl 1 (gArm μ 32 (wy k) t))) else U)
theorem mkU_s {μ : Mem} {t : Int} {wy : Row} {n k : Nat} {U : Row} : mkU μ t wy (n + 1) k U = mkU μ t wy n (k + 1) (if (0 ≤ wy k ∧ wy k < μ 32 0) ∧ ¬ gArm μ 32 (wy k) t = -1 then up U (wy k).toNat (iorr (U (wy k).toNat) (ishl 1 (gArm μ 32 (wy k) t))) else U) := rfl
theorem mkU_cg {μ ν : Mem} (g : Ag μ ν) {t : Int} {w1 w2 : Row} : ∀ (n k : Nat) (U : Row), (∀ i, k ≤ i → i < k + n → w1 i = w2 i) → mkU ν t w1 n k U = mkU μ t w2 n k U := by
  intro n
  induction n with
  | zero => intros; rfl
  | succ n ih =>
    intro k U h
    rw [mkU_s, mkU_s, h k (Nat.le_refl _) (by omega), gArm_ag g, g 32 (by decide)]
    exact ih (k + 1) _ (fun i h1 h2 => h i (by omega) (by omega))
theorem gWay_cg {μ ν : Mem} (h1 : ν 96 = μ 96) (h2 : ν 99 = μ 99) (i : Int) : gWay ν i = gWay μ i := by unfold gWay; rw [h1, h2]

set_option maxRecDepth 20000 in
theorem l_markArms {ν : Mem} (hL : LOK ν 32) (hgo : 0 ≤ ν 96 3 ∧ ν 96 3 ≤ 9) (hwy : ∀ i : Nat, (i : Int) ≤ ν 96 3 → inR (ν 99 i)) {t : Int} (ht : inR t) {R : Row} {X : ZX} (hX : isM X (fun w m => w = un ∧ m = mw ν 115 R)) : ∀ (n : Nat) (k : Int) (y3 y4 : AV) (U : Row), (k + n = ν 96 3) → (0 ≤ k) → (mkU ν t (ν 99) n k.toNat U = R) → V X mX1_markArmsOfTheWay 2 [vr 112, vi t, vi k, y3, y4] [] (mw ν 115 U) := by
  intro n
  induction n with
  | zero =>
    intro k y3 y4 U h1 h2 hR
    have hg : Ag ν (mw ν 115 U) := (Ag.rf ν).mw (by decide)
    have hLm := LOK_ag hg hL
    have e1 : mw ν 115 U 96 3 = ν 96 3 := mw_c (by decide)
    obtain ⟨hL0, hL1, hL2, hL3, hL4⟩ := id hL
    refine V_iloadn (pc := 2) dX1_markArmsOfTheWay_2 rfl ?_
    refine V_aloadn (pc := 3) dX1_markArmsOfTheWay_3 rfl ?_
    refine V_getr (pc := 4) dX1_markArmsOfTheWay_4 fX1_19 zk_112 zr_112_1 ?_
    refine V_cv0 (pc := 7) dX1_markArmsOfTheWay_7 kX1_59 zk_96 (by decide) (Nat.le_of_ble_eq_true rfl) (s_roadsGone) rfl ?_
    rw [e1]
    refine V_icmp_ge (pc := 10) (tgt := 69) dX1_markArmsOfTheWay_10 (by decide) (by omega) (by omega) (fun h10 => ?_) (fun h10 => ?_)
    · refine V_vret (x := 0) hX dX1_markArmsOfTheWay_69 rfl ?_
      exact ⟨rfl, by rw [← hR]; rfl⟩
    · exfalso; omega
  | succ n ih =>
    intro k y3 y4 U h1 h2 hR
    have hg : Ag ν (mw ν 115 U) := (Ag.rf ν).mw (by decide)
    have hLm := LOK_ag hg hL
    have e1 : mw ν 115 U 96 3 = ν 96 3 := mw_c (by decide)
    obtain ⟨hL0, hL1, hL2, hL3, hL4⟩ := id hL
    have e2 : gWay (mw ν 115 U) k = ν 99 k.toNat := by rw [gWay_cg (mw_ne (by decide)) (mw_ne (by decide))]; unfold gWay; rw [if_pos (by omega)]
    have e3 := hwy k.toNat (by omega)
    have e4 := gArm_rg hL (ν 99 k.toNat) t
    refine V_iloadn (pc := 2) dX1_markArmsOfTheWay_2 rfl ?_
    refine V_aloadn (pc := 3) dX1_markArmsOfTheWay_3 rfl ?_
    refine V_getr (pc := 4) dX1_markArmsOfTheWay_4 fX1_19 zk_112 zr_112_1 ?_
    refine V_cv0 (pc := 7) dX1_markArmsOfTheWay_7 kX1_59 zk_96 (by decide) (Nat.le_of_ble_eq_true rfl) (s_roadsGone) rfl ?_
    rw [e1]
    refine V_icmp_ge (pc := 10) (tgt := 69) dX1_markArmsOfTheWay_10 (by decide) (by omega) (by omega) (fun h10 => ?_) (fun h10 => ?_)
    · exfalso; omega
    · refine V_aloadn (pc := 13) dX1_markArmsOfTheWay_13 rfl ?_
      refine V_getr (pc := 14) dX1_markArmsOfTheWay_14 fX1_19 zk_112 zr_112_1 ?_
      refine V_iloadn (pc := 17) dX1_markArmsOfTheWay_17 rfl ?_
      refine V_cv1 (pc := 18) dX1_markArmsOfTheWay_18 kX1_62 zk_96 (by decide) (Nat.le_of_ble_eq_true rfl) (s_placeBehind (by rw [e1]; omega) (by omega)) rfl ?_
      rw [e2]
      refine V_istore_3 (pc := 21) dX1_markArmsOfTheWay_21 (by decide) rfl ?_
      refine V_aloadn (pc := 22) dX1_markArmsOfTheWay_22 rfl ?_
      refine V_getr (pc := 23) dX1_markArmsOfTheWay_23 fX1_15 zk_112 zr_112_0 ?_
      refine V_iloadn (pc := 26) dX1_markArmsOfTheWay_26 rfl ?_
      refine V_iloadn (pc := 27) dX1_markArmsOfTheWay_27 rfl ?_
      refine V_cv2 (pc := 28) dX1_markArmsOfTheWay_28 kX1_65 zk_32 (by decide) (Nat.le_of_ble_eq_true rfl) (s_trueArm LandAt_32 hLm e3 ht) rfl ?_
      rw [gArm_ag hg]
      refine V_istore_4 (pc := 31) dX1_markArmsOfTheWay_31 (by decide) rfl ?_
      refine V_aloadn (pc := 33) dX1_markArmsOfTheWay_33 rfl ?_
      refine V_getr (pc := 34) dX1_markArmsOfTheWay_34 fX1_15 zk_112 zr_112_0 ?_
      refine V_iloadn (pc := 37) dX1_markArmsOfTheWay_37 rfl ?_
      refine V_cv1 (pc := 38) dX1_markArmsOfTheWay_38 kX1_68 zk_32 (by decide) (Nat.le_of_ble_eq_true rfl) (s_hasPlace LandAt_32 hLm e3) rfl ?_
      rw [bi_cg (show gP (mw ν 115 U) 32 (ν 99 k.toNat) ↔ gP ν 32 (ν 99 k.toNat) by unfold gP; rw [mw_c (by decide)])]
      refine V_ifeq_b (pc := 41) (tgt := 63) dX1_markArmsOfTheWay_41 (by decide) (fun h41 => ?_) (fun h41 => ?_)
      · refine V_iinc_2 (pc := 63) dX1_markArmsOfTheWay_63 (by decide) rfl ?_
        refine V_goto (pc := 66) (tgt := 2) dX1_markArmsOfTheWay_66 (by decide) ?_
        exact ih _ _ _ _ (by omega) (by omega) (by rw [← hR, mkU_s, show (k + 1).toNat = k.toNat + 1 by omega]; first | rw [if_pos (by omega)] | rw [if_neg (by omega)])
      · refine V_iload (pc := 44) dX1_markArmsOfTheWay_44 rfl ?_
        refine V_iconst (pc := 46) dX1_markArmsOfTheWay_46 ?_
        refine V_icmp_eq (pc := 47) (tgt := 63) dX1_markArmsOfTheWay_47 (by decide) (by omega) (by decide) (fun h47 => ?_) (fun h47 => ?_)
        · refine V_iinc_2 (pc := 63) dX1_markArmsOfTheWay_63 (by decide) rfl ?_
          refine V_goto (pc := 66) (tgt := 2) dX1_markArmsOfTheWay_66 (by decide) ?_
          exact ih _ _ _ _ (by omega) (by omega) (by rw [← hR, mkU_s, show (k + 1).toNat = k.toNat + 1 by omega]; first | rw [if_pos (by omega)] | rw [if_neg (by omega)])
        · refine V_aloadn (pc := 50) dX1_markArmsOfTheWay_50 rfl ?_
          refine V_getr (pc := 51) dX1_markArmsOfTheWay_51 fX1_9 zk_112 zr_112_2 ?_
          refine V_iloadn (pc := 54) dX1_markArmsOfTheWay_54 rfl ?_
          refine V_dup2_ir (pc := 55) dX1_markArmsOfTheWay_55 ?_
          refine V_iald (pc := 56) dX1_markArmsOfTheWay_56 zk_115 (by omega) (by omega) (by decide) ?_
          rw [mw_s]
          refine V_iconst (pc := 57) dX1_markArmsOfTheWay_57 ?_
          refine V_iload (pc := 58) dX1_markArmsOfTheWay_58 rfl ?_
          refine V_ishl (pc := 60) dX1_markArmsOfTheWay_60 ?_
          refine V_ior (pc := 61) dX1_markArmsOfTheWay_61 ?_
          refine V_iast (pc := 62) dX1_markArmsOfTheWay_62 zk_115 (by omega) (by omega) (by decide) ?_
          rw [mu_mw]
          refine V_iinc_2 (pc := 63) dX1_markArmsOfTheWay_63 (by decide) rfl ?_
          refine V_goto (pc := 66) (tgt := 2) dX1_markArmsOfTheWay_66 (by decide) ?_
          exact ih _ _ _ _ (by omega) (by omega) (by rw [← hR, mkU_s, show (k + 1).toNat = k.toNat + 1 by omega]; first | rw [if_pos (by omega)] | rw [if_neg (by omega)])

set_option maxRecDepth 20000 in
theorem s_markArms {ν : Mem} (hL : LOK ν 32) (hgo : 0 ≤ ν 96 3 ∧ ν 96 3 ≤ 9) (hwy : ∀ i : Nat, (i : Int) ≤ ν 96 3 → inR (ν 99 i)) {t : Int} (ht : inR t) {U : Row} : SP mX1_markArmsOfTheWay [vr 112, vi t] (mw ν 115 U) (fun w m => w = un ∧ m = mw ν 115 (mkU ν t (ν 99) (ν 96 3).toNat 0 U)) := by
  refine SP_intro (ls := [vr 112, vi t, un, un, un]) (by decide +kernel) rfl rfl (Nat.le_of_ble_eq_true rfl) rfl (fun X hX => ?_)
  refine V_iconst (pc := 0) dX1_markArmsOfTheWay_0 ?_
  refine V_istore_2 (pc := 1) dX1_markArmsOfTheWay_1 (by decide) rfl ?_
  exact l_markArms hL hgo hwy ht hX (ν 96 3).toNat 0 _ _ U (by omega) (by omega) rfl

def zr9 : Nat → Nat → Row → Row
  | 0, _, U => U
  | n + 1, p, U => zr9 n (p + 1) (up U p 0)
theorem zr9_s {n p : Nat} {U : Row} : zr9 (n + 1) p U = zr9 n (p + 1) (up U p 0) := rfl
/-- the places of the way of travel g -/
def tWay (μ : Mem) (g : Int) : Row := fun i => (gFr μ 32 g :: (wkF μ (gFr μ 32 g) (gTo μ 32 g) 0).2.2).getD i 0
def ndU (μ : Mem) : Nat → Int → Row → Row
  | 0, _, U => U
  | n + 1, g, U => ndU μ n (g + 1) (if (wkF μ (gFr μ 32 g) (gTo μ 32 g) 0).1 = 1 then mkU μ (gTo μ 32 g) (tWay μ g) (wkF μ (gFr μ 32 g) (gTo μ 32 g) 0).2.2.length 0 U else U)
theorem ndU_s {μ : Mem} {n : Nat} {g : Int} {U : Row} : ndU μ (n + 1) g U = ndU μ n (g + 1) (if (wkF μ (gFr μ 32 g) (gTo μ 32 g) 0).1 = 1 then mkU μ (gTo μ 32 g) (tWay μ g) (wkF μ (gFr μ 32 g) (gTo μ 32 g) 0).2.2.length 0 U else U) := rfl
def Fr5 (μ m : Mem) : Prop := ∀ k, k ≠ 96 → k ≠ 99 → k ≠ 115 → m k = μ k
theorem Fr5.ag {μ m : Mem} (h : Fr5 μ m) : Ag μ m := fun k hk => h k (by omega) (by omega) (by omega)
theorem wk_pl {μ : Mem} (hL : LOK μ 32) (t r : Int) : ∀ (n : Nat) (x been ms : Int), ∀ q ∈ (wk μ t r n x been ms).2.2, inR q := by
  intro n
  induction n with
  | zero => intro x been ms q hq; simp [wk] at hq
  | succ n ih =>
    intro x been ms q hq
    have h1 := gBy_rg hL x (rT μ 80 x t r)
    simp only [wk] at hq
    split at hq
    · simp at hq
    · split at hq
      · simp at hq; rw [hq]; exact h1
      · split at hq
        · simp at hq; rw [hq]; exact h1
        · rcases List.mem_cons.mp hq with rfl | hq
          · exact h1
          · exact ih _ _ _ q hq
theorem wkF_pl {μ : Mem} (hL : LOK μ 32) {a t r : Int} : ∀ q ∈ (wkF μ a t r).2.2, inR q := by
  intro q hq
  unfold wkF at hq
  split at hq
  · simp at hq
  · exact wk_pl hL t r 9 a _ 0 q hq
theorem WI.inw {μ ν : Mem} {a t r : Int} (hL : LOK μ 32) (ha : inR a) (h : WI μ ν a (wkF μ a t r).2.1 (wkF μ a t r).2.2 (wkF μ a t r).1) (i : Nat) (hi : (i : Int) ≤ ν 96 3) : inR (ν 99 i) := by
  obtain ⟨h1, h2, h3, h4, h5, h6⟩ := h
  cases i with
  | zero => rw [h5]; exact ha
  | succ j =>
    have hj : j < (wkF μ a t r).2.2.length := by rw [h4] at hi; omega
    rw [h6 j hj, List.getD_eq_getElem?_getD, List.getElem?_eq_getElem hj, Option.getD_some]
    exact wkF_pl hL _ (List.getElem_mem hj)
theorem WI.wy {μ ν : Mem} {a ms : Int} {pre : List Int} {e : Int} (h : WI μ ν a ms pre e) (i : Nat) (hi : i ≤ pre.length) : ν 99 i = (a :: pre).getD i 0 := by
  obtain ⟨h1, h2, h3, h4, h5, h6⟩ := h
  cases i with
  | zero => simpa using h5
  | succ j => rw [h6 j (by omega)]; simp [List.getD_eq_getElem?_getD]

set_option maxRecDepth 20000 in
theorem l_markNeeded {μ : Mem} (hL : LOK μ 32) (hO : POK μ 80) (hA : ∀ p t, gArm μ 32 p t ≤ 5) (hln : ∀ r, 0 ≤ gLn μ 32 r ∧ gLn μ 32 r ≤ 99) {R : Row} {X : ZX} (hX : isM X (fun w m => w = un ∧ Fr5 μ m ∧ m 115 = R)) : ∀ (n : Nat) (g : Int) (y2 : AV) (ν : Mem) (U : Row), (g + n = μ 32 2) → (0 ≤ g) → (Fr5 μ ν) → (ν 115 = U) → (ndU μ n g U = R) → V X mX1_markNeededArms 23 [vr 112, vi g, y2] [] ν := by
  intro n
  induction n with
  | zero =>
    intro g y2 ν U h1 h2 hw hU hR
    have hg := hw.ag
    have hLn := LOK_ag hg hL
    have hOn := POK_ag hg hO
    have hAn : ∀ p t, gArm ν 32 p t ≤ 5 := fun p t => by rw [gArm_ag hg]; exact hA p t
    have e2 : ν 32 2 = μ 32 2 := by rw [hg 32 (by decide)]
    obtain ⟨hL0, hL1, hL2, -⟩ := id hL
    have r1 := gFr_rg hL g
    have r2 := gTo_rg hL g
    refine V_iloadn (pc := 23) dX1_markNeededArms_23 rfl ?_
    refine V_aloadn (pc := 24) dX1_markNeededArms_24 rfl ?_
    refine V_getr (pc := 25) dX1_markNeededArms_25 fX1_15 zk_112 zr_112_0 ?_
    refine V_cv0 (pc := 28) dX1_markNeededArms_28 kX1_23 zk_32 (by decide) (Nat.le_of_ble_eq_true rfl) (s_travels LandAt_32) rfl ?_
    rw [e2]
    refine V_icmp_ge (pc := 31) (tgt := 82) dX1_markNeededArms_31 (by decide) (by omega) (by omega) (fun h31 => ?_) (fun h31 => ?_)
    · refine V_vret (x := 0) hX dX1_markNeededArms_82 rfl ?_
      exact ⟨rfl, hw, by rw [hU, ← hR]; rfl⟩
    · exfalso; omega
  | succ n ih =>
    intro g y2 ν U h1 h2 hw hU hR
    have hg := hw.ag
    have hLn := LOK_ag hg hL
    have hOn := POK_ag hg hO
    have hAn : ∀ p t, gArm ν 32 p t ≤ 5 := fun p t => by rw [gArm_ag hg]; exact hA p t
    have e2 : ν 32 2 = μ 32 2 := by rw [hg 32 (by decide)]
    obtain ⟨hL0, hL1, hL2, -⟩ := id hL
    have r1 := gFr_rg hL g
    have r2 := gTo_rg hL g
    refine V_iloadn (pc := 23) dX1_markNeededArms_23 rfl ?_
    refine V_aloadn (pc := 24) dX1_markNeededArms_24 rfl ?_
    refine V_getr (pc := 25) dX1_markNeededArms_25 fX1_15 zk_112 zr_112_0 ?_
    refine V_cv0 (pc := 28) dX1_markNeededArms_28 kX1_23 zk_32 (by decide) (Nat.le_of_ble_eq_true rfl) (s_travels LandAt_32) rfl ?_
    rw [e2]
    refine V_icmp_ge (pc := 31) (tgt := 82) dX1_markNeededArms_31 (by decide) (by omega) (by omega) (fun h31 => ?_) (fun h31 => ?_)
    · exfalso; omega
    · refine V_aloadn (pc := 34) dX1_markNeededArms_34 rfl ?_
      refine V_getr (pc := 35) dX1_markNeededArms_35 fX1_15 zk_112 zr_112_0 ?_
      refine V_iloadn (pc := 38) dX1_markNeededArms_38 rfl ?_
      refine V_cv1 (pc := 39) dX1_markNeededArms_39 kX1_33 zk_32 (by decide) (Nat.le_of_ble_eq_true rfl) (s_travelTo LandAt_32 hLn (by omega)) rfl ?_
      rw [gTo_ag hg]
      refine V_istore_2 (pc := 42) dX1_markNeededArms_42 (by decide) rfl ?_
      refine V_aloadn (pc := 43) dX1_markNeededArms_43 rfl ?_
      refine V_getr (pc := 44) dX1_markNeededArms_44 fX1_19 zk_112 zr_112_1 ?_
      refine V_aloadn (pc := 47) dX1_markNeededArms_47 rfl ?_
      refine V_getr (pc := 48) dX1_markNeededArms_48 fX1_15 zk_112 zr_112_0 ?_
      refine V_iloadn (pc := 51) dX1_markNeededArms_51 rfl ?_
      refine V_cv1 (pc := 52) dX1_markNeededArms_52 kX1_29 zk_32 (by decide) (Nat.le_of_ble_eq_true rfl) (s_travelFrom LandAt_32 hLn (by omega)) rfl ?_
      rw [gFr_ag hg]
      refine V_iloadn (pc := 55) dX1_markNeededArms_55 rfl ?_
      refine V_iconst (pc := 56) dX1_markNeededArms_56 ?_
      refine V_cq3 (pc := 57) dX1_markNeededArms_57 kX1_36 zk_96 (by decide) (Nat.le_of_ble_eq_true rfl) (s_goFromTo hLn hOn hAn (by omega) (by omega) (by decide)) ?_
      intro w m hm
      obtain ⟨rfl, hm⟩ := hm
      rw [wkF_ag hg] at hm
      have hg2 := Ag.tr hg hm.ag
      have hw2 : Fr5 μ m := fun k a b c => (hm.1 k a b).trans (hw k a b c)
      have hU2 : m 115 = U := (hm.1 115 (by decide) (by decide)).trans hU
      have hLm := LOK_ag hg2 hL
      have rr := wkF_rg μ hln (gFr μ 32 g) (gTo μ 32 g) 0
      show V X _ _ _ _ m
      refine V_aloadn (pc := 60) dX1_markNeededArms_60 rfl ?_
      refine V_getr (pc := 61) dX1_markNeededArms_61 fX1_19 zk_112 zr_112_1 ?_
      refine V_cv0 (pc := 64) dX1_markNeededArms_64 kX1_42 zk_96 (by decide) (Nat.le_of_ble_eq_true rfl) (s_ending) rfl ?_
      rw [hm.2.1]
      refine V_iconst (pc := 67) dX1_markNeededArms_67 ?_
      refine V_icmp_ne (pc := 68) (tgt := 76) dX1_markNeededArms_68 (by decide) (by omega) (by decide) (fun h68 => ?_) (fun h68 => ?_)
      · refine V_iinc_1 (pc := 76) dX1_markNeededArms_76 (by decide) rfl ?_
        refine V_goto (pc := 79) (tgt := 23) dX1_markNeededArms_79 (by decide) ?_
        first
          | exact ih _ _ _ _ (by omega) (by omega) hw2 hU2 (by rw [← hR, ndU_s, if_neg (by omega)])
          | exact ih _ _ _ _ (by omega) (by omega) (fun k a b c => (mw_ne c).trans (hw2 k a b c)) mw_self (by
              rw [← hR, ndU_s, if_pos (by omega), hU2, hm.2.2.2.1, show (((wkF μ (gFr μ 32 g) (gTo μ 32 g) 0).2.2.length : Nat) : Int).toNat = (wkF μ (gFr μ 32 g) (gTo μ 32 g) 0).2.2.length by omega]
              rw [mkU_cg hg2 (w2 := tWay μ g) _ _ _ (fun i h1 h2 => hm.wy i (by omega))])
      · have hin : ∀ i : Nat, (i : Int) ≤ m 96 3 → inR (m 99 i) := fun i hi => by
          have hm' := hm
          rw [← wkF_ag hg] at hm'
          exact WI.inw hLn r1 hm' i hi
        refine V_aloadn (pc := 71) dX1_markNeededArms_71 rfl ?_
        refine V_iloadn (pc := 72) dX1_markNeededArms_72 rfl ?_
        refine V_cq1 (pc := 73) dX1_markNeededArms_73 kX1_55 zk_112 (by decide) (Nat.le_of_ble_eq_true rfl) ((mw_id m 115) ▸ s_markArms (ν := m) (U := m 115) hLm (by rw [hm.2.2.2.1]; omega) (fun i hi => hin i hi) r2) ?_
        intro w m3 hm3
        obtain ⟨rfl, rfl⟩ := hm3
        show V X _ _ _ _ _
        refine V_iinc_1 (pc := 76) dX1_markNeededArms_76 (by decide) rfl ?_
        refine V_goto (pc := 79) (tgt := 23) dX1_markNeededArms_79 (by decide) ?_
        first
          | exact ih _ _ _ _ (by omega) (by omega) hw2 hU2 (by rw [← hR, ndU_s, if_neg (by omega)])
          | exact ih _ _ _ _ (by omega) (by omega) (fun k a b c => (mw_ne c).trans (hw2 k a b c)) mw_self (by
              rw [← hR, ndU_s, if_pos (by omega), hU2, hm.2.2.2.1, show (((wkF μ (gFr μ 32 g) (gTo μ 32 g) 0).2.2.length : Nat) : Int).toNat = (wkF μ (gFr μ 32 g) (gTo μ 32 g) 0).2.2.length by omega]
              rw [mkU_cg hg2 (w2 := tWay μ g) _ _ _ (fun i h1 h2 => hm.wy i (by omega))])

set_option maxRecDepth 20000 in
theorem l_markZero {μ : Mem} (hL : LOK μ 32) (hO : POK μ 80) (hA : ∀ p t, gArm μ 32 p t ≤ 5) (hln : ∀ r, 0 ≤ gLn μ 32 r ∧ gLn μ 32 r ≤ 99) {R : Row} {X : ZX} (hX : isM X (fun w m => w = un ∧ Fr5 μ m ∧ m 115 = R)) : ∀ (n : Nat) (p : Int) (y2 : AV) (U : Row), (p + n = 9) → (0 ≤ p) → (ndU μ (μ 32 2).toNat 0 (zr9 n p.toNat U) = R) → V X mX1_markNeededArms 2 [vr 112, vi p, y2] [] (mw μ 115 U) := by
  intro n
  induction n with
  | zero =>
    intro p y2 U h1 h2 hR
    obtain ⟨hL0, hL1, hL2, -⟩ := id hL
    refine V_iloadn (pc := 2) dX1_markNeededArms_2 rfl ?_
    refine V_bipush (pc := 3) dX1_markNeededArms_3 (by decide +kernel) ?_
    refine V_icmp_ge (pc := 5) (tgt := 21) dX1_markNeededArms_5 (by decide) (by omega) (by decide) (fun h5 => ?_) (fun h5 => ?_)
    · refine V_iconst (pc := 21) dX1_markNeededArms_21 ?_
      refine V_istore_1 (pc := 22) dX1_markNeededArms_22 (by decide) rfl ?_
      exact l_markNeeded hL hO hA hln hX (μ 32 2).toNat 0 _ _ U (by omega) (by omega) (fun k a b c => mw_ne c) mw_self hR
    · exfalso; omega
  | succ n ih =>
    intro p y2 U h1 h2 hR
    refine V_iloadn (pc := 2) dX1_markNeededArms_2 rfl ?_
    refine V_bipush (pc := 3) dX1_markNeededArms_3 (by decide +kernel) ?_
    refine V_icmp_ge (pc := 5) (tgt := 21) dX1_markNeededArms_5 (by decide) (by omega) (by decide) (fun h5 => ?_) (fun h5 => ?_)
    · exfalso; omega
    · refine V_aloadn (pc := 8) dX1_markNeededArms_8 rfl ?_
      refine V_getr (pc := 9) dX1_markNeededArms_9 fX1_9 zk_112 zr_112_2 ?_
      refine V_iloadn (pc := 12) dX1_markNeededArms_12 rfl ?_
      refine V_iconst (pc := 13) dX1_markNeededArms_13 ?_
      refine V_iast (pc := 14) dX1_markNeededArms_14 zk_115 (by omega) (by omega) (by decide) ?_
      rw [mu_mw]
      refine V_iinc_1 (pc := 15) dX1_markNeededArms_15 (by decide) rfl ?_
      refine V_goto (pc := 18) (tgt := 2) dX1_markNeededArms_18 (by decide) ?_
      exact ih _ _ _ (by omega) (by omega) (by rw [← hR, zr9_s, show (p + 1).toNat = p.toNat + 1 by omega])

set_option maxRecDepth 20000 in
theorem s_markNeeded {μ : Mem} (hL : LOK μ 32) (hO : POK μ 80) (hA : ∀ p t, gArm μ 32 p t ≤ 5) (hln : ∀ r, 0 ≤ gLn μ 32 r ∧ gLn μ 32 r ≤ 99) : SP mX1_markNeededArms [vr 112] μ (fun w m => w = un ∧ Fr5 μ m ∧ m 115 = ndU μ (μ 32 2).toNat 0 (zr9 9 0 (μ 115))) := by
  refine SP_intro (ls := [vr 112, un, un]) (by decide +kernel) rfl rfl (Nat.le_of_ble_eq_true rfl) rfl (fun X hX => ?_)
  refine V_iconst (pc := 0) dX1_markNeededArms_0 ?_
  refine V_istore_1 (pc := 1) dX1_markNeededArms_1 (by decide) rfl ?_
  rw [← mw_id μ 115]
  exact l_markZero hL hO hA hln hX 9 0 _ (μ 115) (by omega) (by omega) rfl

set_option maxRecDepth 20000 in
theorem s_neededArms {μ : Mem} (hL : LOK μ 32) {p : Int} (hp : inR p) : SP mX1_neededArms [vr 112, vi p] μ (fun w m => w = vi (if 0 ≤ p ∧ p < μ 32 0 then μ 115 p.toNat else 0) ∧ m = μ) := by
  refine SP_intro (ls := [vr 112, vi p]) (by decide +kernel) rfl rfl (Nat.le_of_ble_eq_true rfl) rfl (fun X hX => ?_)
  obtain ⟨hL0, hL1, hL2, -⟩ := id hL
  refine V_aloadn (pc := 0) dX1_neededArms_0 rfl ?_
  refine V_getr (pc := 1) dX1_neededArms_1 fX1_15 zk_112 zr_112_0 ?_
  refine V_iloadn (pc := 4) dX1_neededArms_4 rfl ?_
  refine V_cv1 (pc := 5) dX1_neededArms_5 kX1_68 zk_32 (by decide) (Nat.le_of_ble_eq_true rfl) (s_hasPlace LandAt_32 hL hp) rfl ?_
  refine V_ifeq_b (pc := 8) (tgt := 20) dX1_neededArms_8 (by decide) (fun h8 => ?_) (fun h8 => ?_)
  · refine V_iconst (pc := 20) dX1_neededArms_20 ?_
    refine V_iret hX dX1_neededArms_21 rfl ?_
    exact ⟨congrArg vi (by first | rw [if_pos (by omega)] | rw [if_neg (by omega)]), rfl⟩
  · refine V_aloadn (pc := 11) dX1_neededArms_11 rfl ?_
    refine V_getr (pc := 12) dX1_neededArms_12 fX1_9 zk_112 zr_112_2 ?_
    refine V_iloadn (pc := 15) dX1_neededArms_15 rfl ?_
    refine V_iald (pc := 16) dX1_neededArms_16 zk_115 (by omega) (by omega) (by decide) ?_
    refine V_goto (pc := 17) (tgt := 21) dX1_neededArms_17 (by decide) ?_
    refine V_iret hX dX1_neededArms_21 rfl ?_
    exact ⟨congrArg vi (by first | rw [if_pos (by omega)] | rw [if_neg (by omega)]), rfl⟩

def ndF (μ : Mem) : Row := ndU μ (μ 32 2).toNat 0 (zr9 9 0 (μ 115))
def ndS (U : Row) : Nat → Int → Int → Int
  | 0, _, acc => acc
  | n + 1, q, acc => ndS U n (q + 1) (acc + bitsF (U q.toNat))
theorem ndS_s {U : Row} {n : Nat} {q acc : Int} : ndS U (n + 1) q acc = ndS U n (q + 1) (acc + bitsF (U q.toNat)) := rfl
def cNeed (μ : Mem) (p : Int) : Int := if p = -1 then ndS (ndF μ) (μ 32 0).toNat 0 0 else if 0 ≤ p ∧ p < μ 32 0 then ndF μ p.toNat else -1000000001

set_option maxRecDepth 20000 in
theorem l_needed {μ : Mem} (hC : CI μ) {ν : Mem} (hw : Fr5 μ ν) {U : Row} (hν : ν 115 = U) (hU : ∀ x, 0 ≤ U x ∧ U x ≤ 31) {z R : Int} {X : ZX} (hX : isM X (fun w m => w = vi R ∧ Fr5 μ m)) : ∀ (n : Nat) (q acc : Int), (q + n = μ 32 0) → (0 ≤ q) → (ndS U n q acc = R) → V X mX11_needed 44 [vr 0, vi z, vi acc, vi q] [] ν := by
  intro n
  induction n with
  | zero =>
    intro q acc h1 h2 hR
    obtain ⟨hL, hO, hA, hA0, hln, hS, hB, hT, hsd, hi1, hi2⟩ := id hC
    obtain ⟨hL0, hL1, hL2, hL3, hL4⟩ := id hL
    have hg := hw.ag
    have hLn := LOK_ag hg hL
    have e0 : ν 32 0 = μ 32 0 := by rw [hg 32 (by decide)]
    have r1 := hU q.toNat
    refine V_iloadn (pc := 44) dX11_needed_44 rfl ?_
    refine V_aloadn (pc := 45) dX11_needed_45 rfl ?_
    refine V_getr (pc := 46) dX11_needed_46 fX11_19 zk_0 zr_0_1 ?_
    refine V_cv0 (pc := 49) dX11_needed_49 kX11_134 zk_32 (by decide) (Nat.le_of_ble_eq_true rfl) (s_places LandAt_32) rfl ?_
    rw [e0]
    refine V_icmp_ge (pc := 52) (tgt := 75) dX11_needed_52 (by decide) (by omega) (by omega) (fun h52 => ?_) (fun h52 => ?_)
    · refine V_iloadn (pc := 75) dX11_needed_75 rfl ?_
      refine V_iret hX dX11_needed_76 rfl ?_
      exact ⟨congrArg vi hR, hw⟩
    · exfalso; omega
  | succ n ih =>
    intro q acc h1 h2 hR
    obtain ⟨hL, hO, hA, hA0, hln, hS, hB, hT, hsd, hi1, hi2⟩ := id hC
    obtain ⟨hL0, hL1, hL2, hL3, hL4⟩ := id hL
    have hg := hw.ag
    have hLn := LOK_ag hg hL
    have e0 : ν 32 0 = μ 32 0 := by rw [hg 32 (by decide)]
    have r1 := hU q.toNat
    refine V_iloadn (pc := 44) dX11_needed_44 rfl ?_
    refine V_aloadn (pc := 45) dX11_needed_45 rfl ?_
    refine V_getr (pc := 46) dX11_needed_46 fX11_19 zk_0 zr_0_1 ?_
    refine V_cv0 (pc := 49) dX11_needed_49 kX11_134 zk_32 (by decide) (Nat.le_of_ble_eq_true rfl) (s_places LandAt_32) rfl ?_
    rw [e0]
    refine V_icmp_ge (pc := 52) (tgt := 75) dX11_needed_52 (by decide) (by omega) (by omega) (fun h52 => ?_) (fun h52 => ?_)
    · exfalso; omega
    · refine V_iloadn (pc := 55) dX11_needed_55 rfl ?_
      refine V_aloadn (pc := 56) dX11_needed_56 rfl ?_
      refine V_getr (pc := 57) dX11_needed_57 fX11_58 zk_0 zr_0_6 ?_
      refine V_iloadn (pc := 60) dX11_needed_60 rfl ?_
      refine V_cv1 (pc := 61) dX11_needed_61 kX11_284 zk_112 (by decide) (Nat.le_of_ble_eq_true rfl) (s_neededArms hLn (by omega)) rfl ?_
      rw [if_pos (by omega), hν]
      refine V_cs1 (pc := 64) dX11_needed_64 kX11_261 (by decide) (Nat.le_of_ble_eq_true rfl) (s_bitCount (by omega)) rfl ?_
      refine V_iadd (pc := 67) dX11_needed_67 ?_
      refine V_istore_2 (pc := 68) dX11_needed_68 (by decide) rfl ?_
      refine V_iinc_3 (pc := 69) dX11_needed_69 (by decide) rfl ?_
      refine V_goto (pc := 72) (tgt := 44) dX11_needed_72 (by decide) ?_
      exact ih _ _ (by omega) (by omega) (by rw [← hR, ndS_s])

set_option maxRecDepth 20000 in
theorem t_needed {μ : Mem} (hC : CI μ) (hU : ∀ x, 0 ≤ ndF μ x ∧ ndF μ x ≤ 31) {p : Int} (hp : inR p) : SP mX11_needed [vr 0, vi p] μ (fun w m => w = vi (cNeed μ p) ∧ Fr5 μ m) := by
  refine SP_intro (ls := [vr 0, vi p, un, un]) (by decide +kernel) rfl rfl (Nat.le_of_ble_eq_true rfl) rfl (fun X hX => ?_)
  obtain ⟨hL, hO, hA, hA0, hln, hS, hB, hT, hsd, hi1, hi2⟩ := id hC
  obtain ⟨hL0, hL1, hL2, hL3, hL4⟩ := id hL
  refine V_iloadn (pc := 0) dX11_needed_0 rfl ?_
  refine V_iconst (pc := 1) dX11_needed_1 ?_
  refine V_icmp_eq (pc := 2) (tgt := 19) dX11_needed_2 (by decide) (by omega) (by decide) (fun h2 => ?_) (fun h2 => ?_)
  · refine V_aloadn (pc := 19) dX11_needed_19 rfl ?_
    refine V_getr (pc := 20) dX11_needed_20 fX11_58 zk_0 zr_0_6 ?_
    refine V_cq0 (pc := 23) dX11_needed_23 kX11_281 zk_112 (by decide) (Nat.le_of_ble_eq_true rfl) (s_markNeeded hL hO hA hln) ?_
    intro w ν hm
    obtain ⟨rfl, hw, hν⟩ := hm
    have hg := hw.ag
    have hLn := LOK_ag hg hL
    have e0 : ν 32 0 = μ 32 0 := by rw [hg 32 (by decide)]
    show V X _ _ _ _ ν
    refine V_iloadn (pc := 26) dX11_needed_26 rfl ?_
    refine V_iconst (pc := 27) dX11_needed_27 ?_
    refine V_icmp_eq (pc := 28) (tgt := 40) dX11_needed_28 (by decide) (by omega) (by decide) (fun h28 => ?_) (fun h28 => ?_)
    · refine V_iconst (pc := 40) dX11_needed_40 ?_
      refine V_istore_2 (pc := 41) dX11_needed_41 (by decide) rfl ?_
      refine V_iconst (pc := 42) dX11_needed_42 ?_
      refine V_istore_3 (pc := 43) dX11_needed_43 (by decide) rfl ?_
      have e : cNeed μ p = ndS (ndF μ) (μ 32 0).toNat 0 0 := by unfold cNeed; rw [if_pos (by omega)]
      rw [e] at hX
      exact l_needed hC hw hν hU hX (μ 32 0).toNat 0 0 (by omega) (by omega) rfl
    · refine V_aloadn (pc := 31) dX11_needed_31 rfl ?_
      refine V_getr (pc := 32) dX11_needed_32 fX11_58 zk_0 zr_0_6 ?_
      refine V_iloadn (pc := 35) dX11_needed_35 rfl ?_
      refine V_cv1 (pc := 36) dX11_needed_36 kX11_284 zk_112 (by decide) (Nat.le_of_ble_eq_true rfl) (s_neededArms hLn hp) rfl ?_
      rw [e0, if_pos (by omega), hν]
      refine V_iret hX dX11_needed_39 rfl ?_
      exact ⟨congrArg vi (by unfold cNeed; rw [if_neg (by omega), if_pos (by omega)]; rfl), hw⟩
  · refine V_aloadn (pc := 5) dX11_needed_5 rfl ?_
    refine V_getr (pc := 6) dX11_needed_6 fX11_19 zk_0 zr_0_1 ?_
    refine V_iloadn (pc := 9) dX11_needed_9 rfl ?_
    refine V_cv1 (pc := 10) dX11_needed_10 kX11_170 zk_32 (by decide) (Nat.le_of_ble_eq_true rfl) (s_hasPlace LandAt_32 hL hp) rfl ?_
    refine V_ifne_b (pc := 13) (tgt := 19) dX11_needed_13 (by decide) (fun h13 => ?_) (fun h13 => ?_)
    · refine V_aloadn (pc := 19) dX11_needed_19 rfl ?_
      refine V_getr (pc := 20) dX11_needed_20 fX11_58 zk_0 zr_0_6 ?_
      refine V_cq0 (pc := 23) dX11_needed_23 kX11_281 zk_112 (by decide) (Nat.le_of_ble_eq_true rfl) (s_markNeeded hL hO hA hln) ?_
      intro w ν hm
      obtain ⟨rfl, hw, hν⟩ := hm
      have hg := hw.ag
      have hLn := LOK_ag hg hL
      have e0 : ν 32 0 = μ 32 0 := by rw [hg 32 (by decide)]
      show V X _ _ _ _ ν
      refine V_iloadn (pc := 26) dX11_needed_26 rfl ?_
      refine V_iconst (pc := 27) dX11_needed_27 ?_
      refine V_icmp_eq (pc := 28) (tgt := 40) dX11_needed_28 (by decide) (by omega) (by decide) (fun h28 => ?_) (fun h28 => ?_)
      · refine V_iconst (pc := 40) dX11_needed_40 ?_
        refine V_istore_2 (pc := 41) dX11_needed_41 (by decide) rfl ?_
        refine V_iconst (pc := 42) dX11_needed_42 ?_
        refine V_istore_3 (pc := 43) dX11_needed_43 (by decide) rfl ?_
        have e : cNeed μ p = ndS (ndF μ) (μ 32 0).toNat 0 0 := by unfold cNeed; rw [if_pos (by omega)]
        rw [e] at hX
        exact l_needed hC hw hν hU hX (μ 32 0).toNat 0 0 (by omega) (by omega) rfl
      · refine V_aloadn (pc := 31) dX11_needed_31 rfl ?_
        refine V_getr (pc := 32) dX11_needed_32 fX11_58 zk_0 zr_0_6 ?_
        refine V_iloadn (pc := 35) dX11_needed_35 rfl ?_
        refine V_cv1 (pc := 36) dX11_needed_36 kX11_284 zk_112 (by decide) (Nat.le_of_ble_eq_true rfl) (s_neededArms hLn hp) rfl ?_
        rw [e0, if_pos (by omega), hν]
        refine V_iret hX dX11_needed_39 rfl ?_
        exact ⟨congrArg vi (by unfold cNeed; rw [if_neg (by omega), if_pos (by omega)]; rfl), hw⟩
    · refine V_ldc (pc := 16) (n := -1000000001) dX11_needed_16 nX11_160 (by decide) ?_
      refine V_iret hX dX11_needed_18 rfl ?_
      exact ⟨congrArg vi (by unfold cNeed; rw [if_neg (by omega), if_neg (by omega)]), fun k a b c => rfl⟩

abbrev irC (m : Mem) (p : Int) : Prop := (∀ t : Nat, t < (m 32 0).toNat → pM m 80 p t = gFar m 32 p t) ∧ pT m 80 p = 0 ∧ pF m 80 p = 0
def rgt (s : Int) : Nat → Int → Int → Mem → Int × Mem
  | 0, _, c, m => (c, m)
  | n + 1, p, c, m => if In s p ∧ ¬ irC m p then rgt s n (p + 1) (c + 1) (sRt m 80 p 9) else rgt s n (p + 1) c m
theorem rgt_s {s : Int} {n : Nat} {p c : Int} {m : Mem} : rgt s (n + 1) p c m = if In s p ∧ ¬ irC m p then rgt s n (p + 1) (c + 1) (sRt m 80 p 9) else rgt s n (p + 1) c m := rfl
def cRight (μ : Mem) (s : Int) : Int × Mem := if 0 ≤ s ∧ ishr s (μ 32 0) = 0 then rgt s (μ 32 0).toNat 0 0 μ else (-1000000001, μ)
theorem POK_sRt {m : Mem} {o : Nat} {p t : Int} (h : POK m o) (hF : ∀ a b, -1 ≤ gFar m 32 a b ∧ gFar m 32 a b ≤ 1000000) : POK (sRt m o p t) o := by
  obtain ⟨a, b, c⟩ := h
  refine ⟨fun x => ?_, fun x => ?_, fun x => ?_⟩
  · unfold sRt; rw [if_neg (by omega)]; split; decide; exact a x
  · unfold sRt; rw [if_neg (by omega)]; split; decide; exact b x
  · unfold sRt; split; exact hF _ _; rw [if_neg (by omega)]; exact c x

set_option maxRecDepth 20000 in
theorem l_right {s N : Int} (hs : inR s) {R : Int × Mem} {X : ZX} (hX : isM X (fun w m => w = vi R.1 ∧ m = R.2)) : ∀ (n : Nat) (p c : Int) (ν : Mem), (p + n = N) → (0 ≤ p) → (ν 32 0 = N) → (LOK ν 32) → (POK ν 80) → (∀ a b, -1 ≤ gFar ν 32 a b ∧ gFar ν 32 a b ≤ 1000000) → (rgt s n p c ν = R) → V X mX11_right 18 [vr 0, vi s, vi c, vi p] [] ν := by
  intro n
  induction n with
  | zero =>
    intro p c ν h1 h2 hN hLn hOn hF hR
    obtain ⟨hL0, hL1, hL2, hL3, hL4⟩ := id hLn
    refine V_iloadn (pc := 18) dX11_right_18 rfl ?_
    refine V_aloadn (pc := 19) dX11_right_19 rfl ?_
    refine V_getr (pc := 20) dX11_right_20 fX11_19 zk_0 zr_0_1 ?_
    refine V_cv0 (pc := 23) dX11_right_23 kX11_134 zk_32 (by decide) (Nat.le_of_ble_eq_true rfl) (s_places LandAt_32) rfl ?_
    refine V_icmp_ge (pc := 26) (tgt := 65) dX11_right_26 (by decide) (by omega) (by omega) (fun h26 => ?_) (fun h26 => ?_)
    · refine V_iloadn (pc := 65) dX11_right_65 rfl ?_
      refine V_iret hX dX11_right_66 rfl ?_
      subst hR
      exact ⟨rfl, rfl⟩
    · exfalso; omega
  | succ n ih =>
    intro p c ν h1 h2 hN hLn hOn hF hR
    obtain ⟨hL0, hL1, hL2, hL3, hL4⟩ := id hLn
    refine V_iloadn (pc := 18) dX11_right_18 rfl ?_
    refine V_aloadn (pc := 19) dX11_right_19 rfl ?_
    refine V_getr (pc := 20) dX11_right_20 fX11_19 zk_0 zr_0_1 ?_
    refine V_cv0 (pc := 23) dX11_right_23 kX11_134 zk_32 (by decide) (Nat.le_of_ble_eq_true rfl) (s_places LandAt_32) rfl ?_
    refine V_icmp_ge (pc := 26) (tgt := 65) dX11_right_26 (by decide) (by omega) (by omega) (fun h26 => ?_) (fun h26 => ?_)
    · exfalso; omega
    · refine V_iloadn (pc := 29) dX11_right_29 rfl ?_
      refine V_iloadn (pc := 30) dX11_right_30 rfl ?_
      refine V_cs2 (pc := 31) dX11_right_31 kX11_222 (by decide) (Nat.le_of_ble_eq_true rfl) (s_isIn hs (by omega)) rfl ?_
      refine V_ifeq_b (pc := 34) (tgt := 59) dX11_right_34 (by decide) (fun h34 => ?_) (fun h34 => ?_)
      · refine V_iinc_3 (pc := 59) dX11_right_59 (by decide) rfl ?_
        refine V_goto (pc := 62) (tgt := 18) dX11_right_62 (by decide) ?_
        first
          | exact ih _ _ _ (by omega) (by omega) hN hLn hOn hF (by rw [← hR, rgt_s, if_neg (fun h => absurd h.1 (by assumption))])
          | exact ih _ _ _ (by omega) (by omega) hN hLn hOn hF (by rw [← hR, rgt_s, if_neg (fun h => absurd (by assumption) h.2)])
          | exact ih _ _ _ (by omega) (by omega) (by rw [sRt_32 PostsAt_80]; exact hN) (LOK_sRt PostsAt_80 hLn) (POK_sRt hOn hF) (fun a b => by rw [gFar_cg (sRt_32 PostsAt_80) (sRt_out (by decide) (by decide) (by decide))]; exact hF a b) (by rw [← hR, rgt_s, if_pos ⟨by assumption, by assumption⟩])
      · refine V_aloadn (pc := 37) dX11_right_37 rfl ?_
        refine V_getr (pc := 38) dX11_right_38 fX11_40 zk_0 zr_0_4 ?_
        refine V_iloadn (pc := 41) dX11_right_41 rfl ?_
        refine V_cv1 (pc := 42) dX11_right_42 kX11_225 zk_80 (by decide) (Nat.le_of_ble_eq_true rfl) (s_isRight PostsAt_80 hLn hOn (by omega)) rfl ?_
        refine V_ifne_b (pc := 45) (tgt := 59) dX11_right_45 (by decide) (fun h45 => ?_) (fun h45 => ?_)
        · refine V_iinc_3 (pc := 59) dX11_right_59 (by decide) rfl ?_
          refine V_goto (pc := 62) (tgt := 18) dX11_right_62 (by decide) ?_
          first
            | exact ih _ _ _ (by omega) (by omega) hN hLn hOn hF (by rw [← hR, rgt_s, if_neg (fun h => absurd h.1 (by assumption))])
            | exact ih _ _ _ (by omega) (by omega) hN hLn hOn hF (by rw [← hR, rgt_s, if_neg (fun h => absurd (by assumption) h.2)])
            | exact ih _ _ _ (by omega) (by omega) (by rw [sRt_32 PostsAt_80]; exact hN) (LOK_sRt PostsAt_80 hLn) (POK_sRt hOn hF) (fun a b => by rw [gFar_cg (sRt_32 PostsAt_80) (sRt_out (by decide) (by decide) (by decide))]; exact hF a b) (by rw [← hR, rgt_s, if_pos ⟨by assumption, by assumption⟩])
        · refine V_iinc_2 (pc := 48) dX11_right_48 (by decide) rfl ?_
          refine V_aloadn (pc := 51) dX11_right_51 rfl ?_
          refine V_getr (pc := 52) dX11_right_52 fX11_40 zk_0 zr_0_4 ?_
          refine V_iloadn (pc := 55) dX11_right_55 rfl ?_
          refine V_cu1 (pc := 56) dX11_right_56 kX11_228 zk_80 (by decide) (Nat.le_of_ble_eq_true rfl) (s_setRight PostsAt_80 hLn (by omega)) ?_
          refine V_iinc_3 (pc := 59) dX11_right_59 (by decide) rfl ?_
          refine V_goto (pc := 62) (tgt := 18) dX11_right_62 (by decide) ?_
          first
            | exact ih _ _ _ (by omega) (by omega) hN hLn hOn hF (by rw [← hR, rgt_s, if_neg (fun h => absurd h.1 (by assumption))])
            | exact ih _ _ _ (by omega) (by omega) hN hLn hOn hF (by rw [← hR, rgt_s, if_neg (fun h => absurd (by assumption) h.2)])
            | exact ih _ _ _ (by omega) (by omega) (by rw [sRt_32 PostsAt_80]; exact hN) (LOK_sRt PostsAt_80 hLn) (POK_sRt hOn hF) (fun a b => by rw [gFar_cg (sRt_32 PostsAt_80) (sRt_out (by decide) (by decide) (by decide))]; exact hF a b) (by rw [← hR, rgt_s, if_pos ⟨by assumption, by assumption⟩])

set_option maxRecDepth 20000 in
theorem t_right {μ : Mem} (hC : CI μ) (hF : ∀ a b, -1 ≤ gFar μ 32 a b ∧ gFar μ 32 a b ≤ 1000000) {s : Int} (hs : inR s) : SP mX11_right [vr 0, vi s] μ (fun w m => w = vi (cRight μ s).1 ∧ m = (cRight μ s).2) := by
  refine SP_intro (ls := [vr 0, vi s, un, un]) (by decide +kernel) rfl rfl (Nat.le_of_ble_eq_true rfl) rfl (fun X hX => ?_)
  obtain ⟨hL, hO, hA, hA0, hln, hS, hB, hT, hsd, hi1, hi2⟩ := id hC
  obtain ⟨hL0, hL1, hL2, hL3, hL4⟩ := id hL
  refine V_aloadn (pc := 0) dX11_right_0 rfl ?_
  refine V_getr (pc := 1) dX11_right_1 fX11_19 zk_0 zr_0_1 ?_
  refine V_iloadn (pc := 4) dX11_right_4 rfl ?_
  refine V_cv1 (pc := 5) dX11_right_5 kX11_219 zk_32 (by decide) (Nat.le_of_ble_eq_true rfl) (s_hasAllPlaces LandAt_32 hL hs) rfl ?_
  refine V_ifne_b (pc := 8) (tgt := 14) dX11_right_8 (by decide) (fun h8 => ?_) (fun h8 => ?_)
  · refine V_iconst (pc := 14) dX11_right_14 ?_
    refine V_istore_2 (pc := 15) dX11_right_15 (by decide) rfl ?_
    refine V_iconst (pc := 16) dX11_right_16 ?_
    refine V_istore_3 (pc := 17) dX11_right_17 (by decide) rfl ?_
    have e : cRight μ s = rgt s (μ 32 0).toNat 0 0 μ := by unfold cRight; rw [if_pos (by omega)]
    rw [e] at hX
    exact l_right (N := μ 32 0) hs hX (μ 32 0).toNat 0 0 μ (by omega) (by omega) rfl hL hO hF rfl
  · refine V_ldc (pc := 11) (n := -1000000001) dX11_right_11 nX11_160 (by decide) ?_
    refine V_iret hX dX11_right_13 rfl ?_
    unfold cRight
    rw [if_neg (by omega)]
    exact ⟨rfl, rfl⟩

def drV (m : Mem) (n : Int) : Int := ((dnx (m 176 0)).tdiv 65536).tmod n
def drM (m : Mem) : Mem := mu m 176 0 (dnx (m 176 0))
def drT (m : Mem) (p : Int) : Mem := mu (drM (drM m)) (80 + 2) p.toNat ((m (80 + 2) p.toNat + drV (drM m) (gSd m 32 p)) % gSd m 32 p)
def drN (o : Int) : Nat → Int → Mem → Mem
  | 0, _, m => m
  | n + 1, p, m => if drV m 100 < o ∧ 0 < gSd m 32 p then drN o n (p + 1) (drT m p) else drN o n (p + 1) (drM m)
theorem drN_s {o : Int} {n : Nat} {p : Int} {m : Mem} : drN o (n + 1) p m = if drV m 100 < o ∧ 0 < gSd m 32 p then drN o n (p + 1) (drT m p) else drN o n (p + 1) (drM m) := rfl
theorem drV_rg (m : Mem) {n : Int} (hn : 0 < n) : 0 ≤ drV m n ∧ drV m n < n := by
  have h1 := dnx_rg (m 176 0)
  have h2 := tdiv_rg h1.1 (show (0 : Int) < 65536 by decide)
  unfold drV
  rw [Int.tmod_eq_emod_of_nonneg h2.1]
  exact ⟨Int.emod_nonneg _ (by omega), Int.emod_lt_of_pos _ hn⟩
/-- what a drift keeps -/
def DK (μ m : Mem) : Prop := ∀ k, k ≠ 176 → k ≠ 80 + 2 → m k = μ k
theorem DK.rf (μ : Mem) : DK μ μ := fun _ _ _ => rfl
theorem DK.lok {μ m : Mem} (h : DK μ m) (hL : LOK μ 32) : LOK m 32 := LOK_cg hL (h 32 (by decide) (by decide)) (fun k h1 h2 => h (32 + k) (by omega) (by omega))
theorem drM_dk {μ m : Mem} (h : DK μ m) : DK μ (drM m) := fun k a b => (mu_ne a).trans (h k a b)
theorem drT_dk {μ m : Mem} {p : Int} (h : DK μ m) : DK μ (drT m p) := fun k a b => (mu_ne b).trans (drM_dk (drM_dk h) k a b)
theorem POK_drM {m : Mem} (h : POK m 80) : POK (drM m) 80 := by
  obtain ⟨a, b, c⟩ := h
  unfold drM
  exact ⟨fun p => by rw [mu_c (by decide)]; exact a p, fun p => by rw [mu_c (by decide)]; exact b p, fun p => by rw [mu_c (by decide)]; exact c p⟩
theorem drM32 {m : Mem} : drM m 32 0 = m 32 0 := mu_c (by decide)
theorem gSd_drM {m : Mem} (p : Int) : gSd (drM m) 32 p = gSd m 32 p := gSd_cg (mu_ne (by decide)) (mu_ne (by decide)) p
theorem POK_drT {m : Mem} {p : Int} (hL : LOK m 32) (h : POK m 80) (hs : 0 < gSd m 32 p) : POK (drT m p) 80 := by
  have g := gSd_rg hL p
  refine POK_turn (POK_drM (POK_drM h)) ⟨Int.emod_nonneg _ (by omega), ?_⟩
  have := Int.emod_lt_of_pos (m (80 + 2) p.toNat + drV (drM m) (gSd m 32 p)) hs
  omega

set_option maxRecDepth 20000 in
theorem l_driftOne {μ : Mem} (hL : LOK μ 32) {o : Int} (ho : 0 ≤ o ∧ o ≤ 100) {R : Mem} {X : ZX} (hX : isM X (fun w m => w = un ∧ m = R)) : ∀ (n : Nat) (p : Int) (y3 : AV) (ν : Mem), (p + n = μ 32 0) → (0 ≤ p) → (DK μ ν) → (POK ν 80) → (0 ≤ ν 176 0 ∧ ν 176 0 < 2147483648) → (drN o n p ν = R) → V X mX11_driftOneNight 2 [vr 0, vi o, vi p, y3] [] ν := by
  intro n
  induction n with
  | zero =>
    intro p y3 ν h1 h2 hw hOn hsd hR
    have hLn := hw.lok hL
    obtain ⟨hL0, hL1, hL2, hL3, hL4⟩ := id hLn
    have e0 : ν 32 0 = μ 32 0 := by rw [hw 32 (by decide) (by decide)]
    have g1 := gSd_rg hLn p
    have g2 := drV_rg ν (n := 100) (by decide)
    have g3 := fun h => drV_rg (drM ν) (n := gSd ν 32 p) h
    have g4 := dnx_rg (ν 176 0)
    refine V_iloadn (pc := 2) dX11_driftOneNight_2 rfl ?_
    refine V_aloadn (pc := 3) dX11_driftOneNight_3 rfl ?_
    refine V_getr (pc := 4) dX11_driftOneNight_4 fX11_19 zk_0 zr_0_1 ?_
    refine V_cv0 (pc := 7) dX11_driftOneNight_7 kX11_134 zk_32 (by decide) (Nat.le_of_ble_eq_true rfl) (s_places LandAt_32) rfl ?_
    rw [e0]
    refine V_icmp_ge (pc := 10) (tgt := 76) dX11_driftOneNight_10 (by decide) (by omega) (by omega) (fun h10 => ?_) (fun h10 => ?_)
    · refine V_vret (x := 0) hX dX11_driftOneNight_76 rfl ?_
      exact ⟨rfl, hR⟩
    · exfalso; omega
  | succ n ih =>
    intro p y3 ν h1 h2 hw hOn hsd hR
    have hLn := hw.lok hL
    obtain ⟨hL0, hL1, hL2, hL3, hL4⟩ := id hLn
    have e0 : ν 32 0 = μ 32 0 := by rw [hw 32 (by decide) (by decide)]
    have g1 := gSd_rg hLn p
    have g2 := drV_rg ν (n := 100) (by decide)
    have g3 := fun h => drV_rg (drM ν) (n := gSd ν 32 p) h
    have g4 := dnx_rg (ν 176 0)
    refine V_iloadn (pc := 2) dX11_driftOneNight_2 rfl ?_
    refine V_aloadn (pc := 3) dX11_driftOneNight_3 rfl ?_
    refine V_getr (pc := 4) dX11_driftOneNight_4 fX11_19 zk_0 zr_0_1 ?_
    refine V_cv0 (pc := 7) dX11_driftOneNight_7 kX11_134 zk_32 (by decide) (Nat.le_of_ble_eq_true rfl) (s_places LandAt_32) rfl ?_
    rw [e0]
    refine V_icmp_ge (pc := 10) (tgt := 76) dX11_driftOneNight_10 (by decide) (by omega) (by omega) (fun h10 => ?_) (fun h10 => ?_)
    · exfalso; omega
    · refine V_aloadn (pc := 13) dX11_driftOneNight_13 rfl ?_
      refine V_getr (pc := 14) dX11_driftOneNight_14 fX11_86 zk_0 zr_0_10 ?_
      refine V_bipush (pc := 17) dX11_driftOneNight_17 (by decide +kernel) ?_
      refine V_cv1 (pc := 19) dX11_driftOneNight_19 kX11_298 zk_176 (by decide) (Nat.le_of_ble_eq_true rfl) (s_next hsd (by decide)) rfl ?_
      have hLd : LOK (drM ν) 32 := (drM_dk hw).lok hL
      have gd := gSd_drM (m := ν) p
      change V X mX11_driftOneNight (19 + 3) [vr 0, vi o, vi p, y3] [vi (drV ν 100)] (drM ν)
      refine V_iloadn (pc := 22) dX11_driftOneNight_22 rfl ?_
      refine V_icmp_ge (pc := 23) (tgt := 30) dX11_driftOneNight_23 (by decide) (by omega) (by omega) (fun h23 => ?_) (fun h23 => ?_)
      · refine V_iconst (pc := 30) dX11_driftOneNight_30 ?_
        refine V_istore_3 (pc := 31) dX11_driftOneNight_31 (by decide) rfl ?_
        refine V_iloadn (pc := 32) dX11_driftOneNight_32 rfl ?_
        refine V_if_eq (pc := 33) (tgt := 70) dX11_driftOneNight_33 (by decide) (by omega) (fun h33 => ?_) (fun h33 => ?_)
        · refine V_iinc_2 (pc := 70) dX11_driftOneNight_70 (by decide) rfl ?_
          refine V_goto (pc := 73) (tgt := 2) dX11_driftOneNight_73 (by decide) ?_
          first
            | exact ih _ _ _ (by omega) (by omega) (drM_dk hw) (POK_drM hOn) (by unfold drM; rw [mu_h]; exact dnx_rg _) (by rw [← hR, drN_s, if_neg (by omega)])
            | (exfalso; omega)
            | (have eT : mu (drM (drM ν)) (80 + 2) p.toNat ((drM (drM ν) (80 + 2) p.toNat + drV (drM ν) (gSd ν 32 p)) % gSd (drM (drM ν)) 32 p) = drT ν p := by
                 rw [gd2]; unfold drT; rw [show drM (drM ν) (80 + 2) p.toNat = ν (80 + 2) p.toNat from by unfold drM; rw [mu_c (by decide), mu_c (by decide)]]
               change V X mX11_driftOneNight 2 [vr 0, vi o, vi (p + 1), _] [] (mu (drM (drM ν)) (80 + 2) p.toNat ((drM (drM ν) (80 + 2) p.toNat + drV (drM ν) (gSd ν 32 p)) % gSd (drM (drM ν)) 32 p))
               rw [eT]
               exact ih _ _ _ (by omega) (by omega) (drT_dk hw) (POK_drT hLn hOn (by omega)) (by unfold drT; rw [mu_c (by decide)]; unfold drM; rw [mu_h]; exact dnx_rg _) (by rw [← hR, drN_s, if_pos (by omega)]))
        · refine V_aloadn (pc := 36) dX11_driftOneNight_36 rfl ?_
          refine V_getr (pc := 37) dX11_driftOneNight_37 fX11_19 zk_0 zr_0_1 ?_
          refine V_iloadn (pc := 40) dX11_driftOneNight_40 rfl ?_
          refine V_cv1 (pc := 41) dX11_driftOneNight_41 kX11_177 zk_32 (by decide) (Nat.le_of_ble_eq_true rfl) (s_sidesOf LandAt_32 hLd (by omega)) rfl ?_
          rw [gd]
          refine V_if_le (pc := 44) (tgt := 70) dX11_driftOneNight_44 (by decide) (by omega) (fun h44 => ?_) (fun h44 => ?_)
          · refine V_iinc_2 (pc := 70) dX11_driftOneNight_70 (by decide) rfl ?_
            refine V_goto (pc := 73) (tgt := 2) dX11_driftOneNight_73 (by decide) ?_
            first
              | exact ih _ _ _ (by omega) (by omega) (drM_dk hw) (POK_drM hOn) (by unfold drM; rw [mu_h]; exact dnx_rg _) (by rw [← hR, drN_s, if_neg (by omega)])
              | (exfalso; omega)
              | (have eT : mu (drM (drM ν)) (80 + 2) p.toNat ((drM (drM ν) (80 + 2) p.toNat + drV (drM ν) (gSd ν 32 p)) % gSd (drM (drM ν)) 32 p) = drT ν p := by
                   rw [gd2]; unfold drT; rw [show drM (drM ν) (80 + 2) p.toNat = ν (80 + 2) p.toNat from by unfold drM; rw [mu_c (by decide), mu_c (by decide)]]
                 change V X mX11_driftOneNight 2 [vr 0, vi o, vi (p + 1), _] [] (mu (drM (drM ν)) (80 + 2) p.toNat ((drM (drM ν) (80 + 2) p.toNat + drV (drM ν) (gSd ν 32 p)) % gSd (drM (drM ν)) 32 p))
                 rw [eT]
                 exact ih _ _ _ (by omega) (by omega) (drT_dk hw) (POK_drT hLn hOn (by omega)) (by unfold drT; rw [mu_c (by decide)]; unfold drM; rw [mu_h]; exact dnx_rg _) (by rw [← hR, drN_s, if_pos (by omega)]))
          · refine V_aloadn (pc := 47) dX11_driftOneNight_47 rfl ?_
            refine V_getr (pc := 48) dX11_driftOneNight_48 fX11_40 zk_0 zr_0_4 ?_
            refine V_iloadn (pc := 51) dX11_driftOneNight_51 rfl ?_
            refine V_aloadn (pc := 52) dX11_driftOneNight_52 rfl ?_
            refine V_getr (pc := 53) dX11_driftOneNight_53 fX11_86 zk_0 zr_0_10 ?_
            refine V_aloadn (pc := 56) dX11_driftOneNight_56 rfl ?_
            refine V_getr (pc := 57) dX11_driftOneNight_57 fX11_19 zk_0 zr_0_1 ?_
            refine V_iloadn (pc := 60) dX11_driftOneNight_60 rfl ?_
            refine V_cv1 (pc := 61) dX11_driftOneNight_61 kX11_177 zk_32 (by decide) (Nat.le_of_ble_eq_true rfl) (s_sidesOf LandAt_32 hLd (by omega)) rfl ?_
            have hsd2 : 0 ≤ drM ν 176 0 ∧ drM ν 176 0 < 2147483648 := by unfold drM; rw [mu_h]; exact dnx_rg _
            have hLd2 : LOK (drM (drM ν)) 32 := (drM_dk (drM_dk hw)).lok hL
            have gd2 : gSd (drM (drM ν)) 32 p = gSd ν 32 p := by rw [gSd_drM, gSd_drM]
            rw [gd]
            refine V_cv1 (pc := 64) dX11_driftOneNight_64 kX11_298 zk_176 (by decide) (Nat.le_of_ble_eq_true rfl) (s_next hsd2 (by omega)) rfl ?_
            refine V_cu2 (pc := 67) dX11_driftOneNight_67 kX11_204 zk_80 (by decide) (Nat.le_of_ble_eq_true rfl) (s_turnFurther PostsAt_80 hLd2 (POK_drM (POK_drM hOn)) (by rw [drM32, drM32]; omega) (by rw [gd2]; omega) (by have := g3 (by omega); unfold drV at this; omega)) ?_
            refine V_iinc_2 (pc := 70) dX11_driftOneNight_70 (by decide) rfl ?_
            refine V_goto (pc := 73) (tgt := 2) dX11_driftOneNight_73 (by decide) ?_
            first
              | exact ih _ _ _ (by omega) (by omega) (drM_dk hw) (POK_drM hOn) (by unfold drM; rw [mu_h]; exact dnx_rg _) (by rw [← hR, drN_s, if_neg (by omega)])
              | (exfalso; omega)
              | (have eT : mu (drM (drM ν)) (80 + 2) p.toNat ((drM (drM ν) (80 + 2) p.toNat + drV (drM ν) (gSd ν 32 p)) % gSd (drM (drM ν)) 32 p) = drT ν p := by
                   rw [gd2]; unfold drT; rw [show drM (drM ν) (80 + 2) p.toNat = ν (80 + 2) p.toNat from by unfold drM; rw [mu_c (by decide), mu_c (by decide)]]
                 change V X mX11_driftOneNight 2 [vr 0, vi o, vi (p + 1), _] [] (mu (drM (drM ν)) (80 + 2) p.toNat ((drM (drM ν) (80 + 2) p.toNat + drV (drM ν) (gSd ν 32 p)) % gSd (drM (drM ν)) 32 p))
                 rw [eT]
                 exact ih _ _ _ (by omega) (by omega) (drT_dk hw) (POK_drT hLn hOn (by omega)) (by unfold drT; rw [mu_c (by decide)]; unfold drM; rw [mu_h]; exact dnx_rg _) (by rw [← hR, drN_s, if_pos (by omega)]))
      · refine V_iconst (pc := 26) dX11_driftOneNight_26 ?_
        refine V_goto (pc := 27) (tgt := 31) dX11_driftOneNight_27 (by decide) ?_
        refine V_istore_3 (pc := 31) dX11_driftOneNight_31 (by decide) rfl ?_
        refine V_iloadn (pc := 32) dX11_driftOneNight_32 rfl ?_
        refine V_if_eq (pc := 33) (tgt := 70) dX11_driftOneNight_33 (by decide) (by omega) (fun h33 => ?_) (fun h33 => ?_)
        · refine V_iinc_2 (pc := 70) dX11_driftOneNight_70 (by decide) rfl ?_
          refine V_goto (pc := 73) (tgt := 2) dX11_driftOneNight_73 (by decide) ?_
          first
            | exact ih _ _ _ (by omega) (by omega) (drM_dk hw) (POK_drM hOn) (by unfold drM; rw [mu_h]; exact dnx_rg _) (by rw [← hR, drN_s, if_neg (by omega)])
            | (exfalso; omega)
            | (have eT : mu (drM (drM ν)) (80 + 2) p.toNat ((drM (drM ν) (80 + 2) p.toNat + drV (drM ν) (gSd ν 32 p)) % gSd (drM (drM ν)) 32 p) = drT ν p := by
                 rw [gd2]; unfold drT; rw [show drM (drM ν) (80 + 2) p.toNat = ν (80 + 2) p.toNat from by unfold drM; rw [mu_c (by decide), mu_c (by decide)]]
               change V X mX11_driftOneNight 2 [vr 0, vi o, vi (p + 1), _] [] (mu (drM (drM ν)) (80 + 2) p.toNat ((drM (drM ν) (80 + 2) p.toNat + drV (drM ν) (gSd ν 32 p)) % gSd (drM (drM ν)) 32 p))
               rw [eT]
               exact ih _ _ _ (by omega) (by omega) (drT_dk hw) (POK_drT hLn hOn (by omega)) (by unfold drT; rw [mu_c (by decide)]; unfold drM; rw [mu_h]; exact dnx_rg _) (by rw [← hR, drN_s, if_pos (by omega)]))
        · refine V_aloadn (pc := 36) dX11_driftOneNight_36 rfl ?_
          refine V_getr (pc := 37) dX11_driftOneNight_37 fX11_19 zk_0 zr_0_1 ?_
          refine V_iloadn (pc := 40) dX11_driftOneNight_40 rfl ?_
          refine V_cv1 (pc := 41) dX11_driftOneNight_41 kX11_177 zk_32 (by decide) (Nat.le_of_ble_eq_true rfl) (s_sidesOf LandAt_32 hLd (by omega)) rfl ?_
          rw [gd]
          refine V_if_le (pc := 44) (tgt := 70) dX11_driftOneNight_44 (by decide) (by omega) (fun h44 => ?_) (fun h44 => ?_)
          · refine V_iinc_2 (pc := 70) dX11_driftOneNight_70 (by decide) rfl ?_
            refine V_goto (pc := 73) (tgt := 2) dX11_driftOneNight_73 (by decide) ?_
            first
              | exact ih _ _ _ (by omega) (by omega) (drM_dk hw) (POK_drM hOn) (by unfold drM; rw [mu_h]; exact dnx_rg _) (by rw [← hR, drN_s, if_neg (by omega)])
              | (exfalso; omega)
              | (have eT : mu (drM (drM ν)) (80 + 2) p.toNat ((drM (drM ν) (80 + 2) p.toNat + drV (drM ν) (gSd ν 32 p)) % gSd (drM (drM ν)) 32 p) = drT ν p := by
                   rw [gd2]; unfold drT; rw [show drM (drM ν) (80 + 2) p.toNat = ν (80 + 2) p.toNat from by unfold drM; rw [mu_c (by decide), mu_c (by decide)]]
                 change V X mX11_driftOneNight 2 [vr 0, vi o, vi (p + 1), _] [] (mu (drM (drM ν)) (80 + 2) p.toNat ((drM (drM ν) (80 + 2) p.toNat + drV (drM ν) (gSd ν 32 p)) % gSd (drM (drM ν)) 32 p))
                 rw [eT]
                 exact ih _ _ _ (by omega) (by omega) (drT_dk hw) (POK_drT hLn hOn (by omega)) (by unfold drT; rw [mu_c (by decide)]; unfold drM; rw [mu_h]; exact dnx_rg _) (by rw [← hR, drN_s, if_pos (by omega)]))
          · refine V_aloadn (pc := 47) dX11_driftOneNight_47 rfl ?_
            refine V_getr (pc := 48) dX11_driftOneNight_48 fX11_40 zk_0 zr_0_4 ?_
            refine V_iloadn (pc := 51) dX11_driftOneNight_51 rfl ?_
            refine V_aloadn (pc := 52) dX11_driftOneNight_52 rfl ?_
            refine V_getr (pc := 53) dX11_driftOneNight_53 fX11_86 zk_0 zr_0_10 ?_
            refine V_aloadn (pc := 56) dX11_driftOneNight_56 rfl ?_
            refine V_getr (pc := 57) dX11_driftOneNight_57 fX11_19 zk_0 zr_0_1 ?_
            refine V_iloadn (pc := 60) dX11_driftOneNight_60 rfl ?_
            refine V_cv1 (pc := 61) dX11_driftOneNight_61 kX11_177 zk_32 (by decide) (Nat.le_of_ble_eq_true rfl) (s_sidesOf LandAt_32 hLd (by omega)) rfl ?_
            have hsd2 : 0 ≤ drM ν 176 0 ∧ drM ν 176 0 < 2147483648 := by unfold drM; rw [mu_h]; exact dnx_rg _
            have hLd2 : LOK (drM (drM ν)) 32 := (drM_dk (drM_dk hw)).lok hL
            have gd2 : gSd (drM (drM ν)) 32 p = gSd ν 32 p := by rw [gSd_drM, gSd_drM]
            rw [gd]
            refine V_cv1 (pc := 64) dX11_driftOneNight_64 kX11_298 zk_176 (by decide) (Nat.le_of_ble_eq_true rfl) (s_next hsd2 (by omega)) rfl ?_
            refine V_cu2 (pc := 67) dX11_driftOneNight_67 kX11_204 zk_80 (by decide) (Nat.le_of_ble_eq_true rfl) (s_turnFurther PostsAt_80 hLd2 (POK_drM (POK_drM hOn)) (by rw [drM32, drM32]; omega) (by rw [gd2]; omega) (by have := g3 (by omega); unfold drV at this; omega)) ?_
            refine V_iinc_2 (pc := 70) dX11_driftOneNight_70 (by decide) rfl ?_
            refine V_goto (pc := 73) (tgt := 2) dX11_driftOneNight_73 (by decide) ?_
            first
              | exact ih _ _ _ (by omega) (by omega) (drM_dk hw) (POK_drM hOn) (by unfold drM; rw [mu_h]; exact dnx_rg _) (by rw [← hR, drN_s, if_neg (by omega)])
              | (exfalso; omega)
              | (have eT : mu (drM (drM ν)) (80 + 2) p.toNat ((drM (drM ν) (80 + 2) p.toNat + drV (drM ν) (gSd ν 32 p)) % gSd (drM (drM ν)) 32 p) = drT ν p := by
                   rw [gd2]; unfold drT; rw [show drM (drM ν) (80 + 2) p.toNat = ν (80 + 2) p.toNat from by unfold drM; rw [mu_c (by decide), mu_c (by decide)]]
                 change V X mX11_driftOneNight 2 [vr 0, vi o, vi (p + 1), _] [] (mu (drM (drM ν)) (80 + 2) p.toNat ((drM (drM ν) (80 + 2) p.toNat + drV (drM ν) (gSd ν 32 p)) % gSd (drM (drM ν)) 32 p))
                 rw [eT]
                 exact ih _ _ _ (by omega) (by omega) (drT_dk hw) (POK_drT hLn hOn (by omega)) (by unfold drT; rw [mu_c (by decide)]; unfold drM; rw [mu_h]; exact dnx_rg _) (by rw [← hR, drN_s, if_pos (by omega)]))

set_option maxRecDepth 20000 in
theorem s_driftOne {μ : Mem} (hL : LOK μ 32) (hO : POK μ 80) (hsd : 0 ≤ μ 176 0 ∧ μ 176 0 < 2147483648) {o : Int} (ho : 0 ≤ o ∧ o ≤ 100) : SP mX11_driftOneNight [vr 0, vi o] μ (fun w m => w = un ∧ m = drN o (μ 32 0).toNat 0 μ) := by
  refine SP_intro (ls := [vr 0, vi o, un, un]) (by decide +kernel) rfl rfl (Nat.le_of_ble_eq_true rfl) rfl (fun X hX => ?_)
  obtain ⟨hL0, hL1, hL2, hL3, hL4⟩ := id hL
  refine V_iconst (pc := 0) dX11_driftOneNight_0 ?_
  refine V_istore_2 (pc := 1) dX11_driftOneNight_1 (by decide) rfl ?_
  exact l_driftOne hL ho hX (μ 32 0).toNat 0 _ μ (by omega) (by omega) (DK.rf μ) hO hsd rfl

def drS (o : Int) : Nat → Mem → Mem
  | 0, m => m
  | n + 1, m => drS o n (drN o (m 32 0).toNat 0 m)
theorem drS_s {o : Int} {n : Nat} {m : Mem} : drS o (n + 1) m = drS o n (drN o (m 32 0).toNat 0 m) := rfl
theorem drN_ok {μ : Mem} (hL : LOK μ 32) {o : Int} : ∀ (n : Nat) (p : Int) (m : Mem), DK μ m → POK m 80 → (0 ≤ m 176 0 ∧ m 176 0 < 2147483648) → DK μ (drN o n p m) ∧ POK (drN o n p m) 80 ∧ (0 ≤ drN o n p m 176 0 ∧ drN o n p m 176 0 < 2147483648) := by
  intro n
  induction n with
  | zero => intro p m h1 h2 h3; exact ⟨h1, h2, h3⟩
  | succ n ih =>
    intro p m h1 h2 h3
    rw [drN_s]
    split
    · rename_i hc
      exact ih _ _ (drT_dk h1) (POK_drT (h1.lok hL) h2 hc.2) (by unfold drT; rw [mu_c (by decide)]; unfold drM; rw [mu_h]; exact dnx_rg _)
    · exact ih _ _ (drM_dk h1) (POK_drM h2) (by unfold drM; rw [mu_h]; exact dnx_rg _)
def DOK (μ m : Mem) : Prop := DK μ m ∧ POK m 80 ∧ (0 ≤ m 176 0 ∧ m 176 0 < 2147483648)

set_option maxRecDepth 20000 in
theorem l_drift {μ : Mem} (hL : LOK μ 32) (hA : ∀ p t, gArm μ 32 p t ≤ 5) (hln : ∀ r, 0 ≤ gLn μ 32 r ∧ gLn μ 32 r ≤ 99) {N o : Int} (hN : inR N) (ho : 0 ≤ o ∧ o ≤ 100) {R : Mem} {X : ZX} (hX : isM X (fun w m => w = vi (cost R 0) ∧ Fr R m)) : ∀ (n : Nat) (k : Int) (ν : Mem), (k + n = N) → (0 ≤ k) → (DOK μ ν) → (drS o n ν = R) → V X mX11_drift 26 [vr 0, vi N, vi o, vi k] [] ν := by
  intro n
  induction n with
  | zero =>
    intro k ν h1 h2 hw hR
    have hAn : ∀ p t, gArm ν 32 p t ≤ 5 := fun p t => by rw [gArm_cg (hw.1 32 (by decide) (by decide)) (hw.1 (32 + 13) (by decide) (by decide))]; exact hA p t
    have hlnn : ∀ r, 0 ≤ gLn ν 32 r ∧ gLn ν 32 r ≤ 99 := fun r => by rw [gLn_cg (hw.1 32 (by decide) (by decide)) (hw.1 (32 + 6) (by decide) (by decide))]; exact hln r
    obtain rfl : ν = R := hR
    refine V_iloadn (pc := 26) dX11_drift_26 rfl ?_
    refine V_iloadn (pc := 27) dX11_drift_27 rfl ?_
    refine V_icmp_ge (pc := 28) (tgt := 42) dX11_drift_28 (by decide) (by omega) (by omega) (fun h28 => ?_) (fun h28 => ?_)
    · refine V_aloadn (pc := 42) dX11_drift_42 rfl ?_
      refine V_getr (pc := 43) dX11_drift_43 fX11_58 zk_0 zr_0_6 ?_
      refine V_iconst (pc := 46) dX11_drift_46 ?_
      refine V_cq1 (pc := 47) dX11_drift_47 kX11_150 zk_112 (by decide) (Nat.le_of_ble_eq_true rfl) (s_costIfRight (hw.1.lok hL) hw.2.1 hAn hlnn (by decide)) ?_
      intro w m hm
      obtain ⟨rfl, hm⟩ := hm
      show V X _ _ _ (vi (cost ν 0) :: _) m
      refine V_iret hX dX11_drift_50 rfl ?_
      exact ⟨rfl, hm⟩
    · exfalso; omega
  | succ n ih =>
    intro k ν h1 h2 hw hR
    have hAn : ∀ p t, gArm ν 32 p t ≤ 5 := fun p t => by rw [gArm_cg (hw.1 32 (by decide) (by decide)) (hw.1 (32 + 13) (by decide) (by decide))]; exact hA p t
    have hlnn : ∀ r, 0 ≤ gLn ν 32 r ∧ gLn ν 32 r ≤ 99 := fun r => by rw [gLn_cg (hw.1 32 (by decide) (by decide)) (hw.1 (32 + 6) (by decide) (by decide))]; exact hln r
    refine V_iloadn (pc := 26) dX11_drift_26 rfl ?_
    refine V_iloadn (pc := 27) dX11_drift_27 rfl ?_
    refine V_icmp_ge (pc := 28) (tgt := 42) dX11_drift_28 (by decide) (by omega) (by omega) (fun h28 => ?_) (fun h28 => ?_)
    · exfalso; omega
    · refine V_aloadn (pc := 31) dX11_drift_31 rfl ?_
      refine V_iloadn (pc := 32) dX11_drift_32 rfl ?_
      refine V_cu1 (pc := 33) dX11_drift_33 kX11_295 zk_0 (by decide) (Nat.le_of_ble_eq_true rfl) (s_driftOne (hw.1.lok hL) hw.2.1 hw.2.2 ho) ?_
      refine V_iinc_3 (pc := 36) dX11_drift_36 (by decide) rfl ?_
      refine V_goto (pc := 39) (tgt := 26) dX11_drift_39 (by decide) ?_
      exact ih _ _ (by omega) (by omega) (drN_ok hL _ _ _ hw.1 hw.2.1 hw.2.2) (by rw [← hR, drS_s])

def cDrift (μ : Mem) (n o : Int) : Int × Mem := if (1 ≤ n ∧ n ≤ 99) ∧ 0 ≤ o ∧ o ≤ 100 then (cost (drS o n.toNat μ) 0, drS o n.toNat μ) else (-1000000002, μ)

set_option maxRecDepth 20000 in
theorem t_drift {μ : Mem} (hC : CI μ) {n o : Int} (hn : inR n) (ho : inR o) : SP mX11_drift [vr 0, vi n, vi o] μ (fun w m => w = vi (cDrift μ n o).1 ∧ Fr (cDrift μ n o).2 m) := by
  refine SP_intro (ls := [vr 0, vi n, vi o, un]) (by decide +kernel) rfl rfl (Nat.le_of_ble_eq_true rfl) rfl (fun X hX => ?_)
  obtain ⟨hL, hO, hA, hA0, hln, hS, hB, hT, hsd, hi1, hi2⟩ := id hC
  obtain ⟨hL0, hL1, hL2, hL3, hL4⟩ := id hL
  refine V_iloadn (pc := 0) dX11_drift_0 rfl ?_
  refine V_iconst (pc := 1) dX11_drift_1 ?_
  refine V_icmp_lt (pc := 2) (tgt := 21) dX11_drift_2 (by decide) (by omega) (by decide) (fun h2 => ?_) (fun h2 => ?_)
  · refine V_ldc (pc := 21) (n := -1000000002) dX11_drift_21 nX11_100 (by decide) ?_
    refine V_iret hX dX11_drift_23 rfl ?_
    unfold cDrift
    rw [if_neg (by omega)]
    exact ⟨rfl, Fr.rf μ⟩
  · refine V_iloadn (pc := 5) dX11_drift_5 rfl ?_
    refine V_bipush (pc := 6) dX11_drift_6 (by decide +kernel) ?_
    refine V_icmp_gt (pc := 8) (tgt := 21) dX11_drift_8 (by decide) (by omega) (by decide) (fun h8 => ?_) (fun h8 => ?_)
    · refine V_ldc (pc := 21) (n := -1000000002) dX11_drift_21 nX11_100 (by decide) ?_
      refine V_iret hX dX11_drift_23 rfl ?_
      unfold cDrift
      rw [if_neg (by omega)]
      exact ⟨rfl, Fr.rf μ⟩
    · refine V_iloadn (pc := 11) dX11_drift_11 rfl ?_
      refine V_if_lt (pc := 12) (tgt := 21) dX11_drift_12 (by decide) (by omega) (fun h12 => ?_) (fun h12 => ?_)
      · refine V_ldc (pc := 21) (n := -1000000002) dX11_drift_21 nX11_100 (by decide) ?_
        refine V_iret hX dX11_drift_23 rfl ?_
        unfold cDrift
        rw [if_neg (by omega)]
        exact ⟨rfl, Fr.rf μ⟩
      · refine V_iloadn (pc := 15) dX11_drift_15 rfl ?_
        refine V_bipush (pc := 16) dX11_drift_16 (by decide +kernel) ?_
        refine V_icmp_le (pc := 18) (tgt := 24) dX11_drift_18 (by decide) (by omega) (by decide) (fun h18 => ?_) (fun h18 => ?_)
        · refine V_iconst (pc := 24) dX11_drift_24 ?_
          refine V_istore_3 (pc := 25) dX11_drift_25 (by decide) rfl ?_
          have e : cDrift μ n o = (cost (drS o n.toNat μ) 0, drS o n.toNat μ) := by unfold cDrift; rw [if_pos (by omega)]
          rw [e] at hX
          exact l_drift hL hA hln hn (by omega) hX n.toNat 0 μ (by omega) (by omega) ⟨DK.rf μ, hO, hsd⟩ rfl
        · refine V_ldc (pc := 21) (n := -1000000002) dX11_drift_21 nX11_100 (by decide) ?_
          refine V_iret hX dX11_drift_23 rfl ?_
          unfold cDrift
          rw [if_neg (by omega)]
          exact ⟨rfl, Fr.rf μ⟩


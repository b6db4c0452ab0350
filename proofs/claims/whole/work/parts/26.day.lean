/-- only the stranger's cells differ -/
def Fr (μ m : Mem) : Prop := ∀ k, k ≠ 96 → k ≠ 99 → m k = μ k
theorem Fr.ag {μ m : Mem} (h : Fr μ m) : Ag μ m := fun k hk => h k (by omega) (by omega)
theorem Fr.rf (μ : Mem) : Fr μ μ := fun _ _ _ => rfl
theorem Fr.tr {μ m n : Mem} (h : Fr μ m) (h2 : Fr m n) : Fr μ n := fun k a b => (h2 k a b).trans (h k a b)
theorem WI.fr {μ ν : Mem} {a ms : Int} {pre : List Int} {e : Int} (h : WI μ ν a ms pre e) : Fr μ ν := h.1
theorem wk_rg (μ : Mem) (hln : ∀ r, 0 ≤ gLn μ 32 r ∧ gLn μ 32 r ≤ 99) (t r : Int) : ∀ (n : Nat) (x been ms : Int), 0 ≤ ms → (0 ≤ (wk μ t r n x been ms).1 ∧ (wk μ t r n x been ms).1 ≤ 3) ∧ 0 ≤ (wk μ t r n x been ms).2.1 ∧ (wk μ t r n x been ms).2.1 ≤ ms + 99 * n ∧ (wk μ t r n x been ms).2.2.length ≤ n := by
  intro n
  induction n with
  | zero => intro x been ms h; simp [wk]; omega
  | succ n ih =>
    intro x been ms h
    have h1 := hln (rT μ 80 x t r)
    have h2 := ih (gBy μ 32 x (rT μ 80 x t r)) (iorr been (ishl 1 (gBy μ 32 x (rT μ 80 x t r)))) (ms + gLn μ 32 (rT μ 80 x t r)) (by omega)
    simp only [wk]
    split
    · simp; omega
    · split
      · simp; omega
      · split
        · simp; omega
        · simp only [List.length_cons]
          omega
theorem wkF_rg (μ : Mem) (hln : ∀ r, 0 ≤ gLn μ 32 r ∧ gLn μ 32 r ≤ 99) (a t r : Int) : (0 ≤ (wkF μ a t r).1 ∧ (wkF μ a t r).1 ≤ 3) ∧ 0 ≤ (wkF μ a t r).2.1 ∧ (wkF μ a t r).2.1 ≤ 891 ∧ (wkF μ a t r).2.2.length ≤ 9 := by
  unfold wkF
  split
  · simp
  · have := wk_rg μ hln t r 9 a (ishl 1 a) 0 (by omega)
    omega
theorem gFr_rg {μ : Mem} {o : Nat} (h : LOK μ o) (g : Int) : inR (gFr μ o g) := by
  unfold gFr; split
  · exact h.rg 7 _
  · decide
theorem gTo_rg {μ : Mem} {o : Nat} (h : LOK μ o) (g : Int) : inR (gTo μ o g) := by
  unfold gTo; split
  · exact h.rg 8 _
  · decide
/-- what each of a travel costs -/
def ech (μ : Mem) (s g : Int) : Int := if (wkF μ (gFr μ 32 g) (gTo μ 32 g) s).1 = 1 then (wkF μ (gFr μ 32 g) (gTo μ 32 g) s).2.1 - gFar μ 32 (gFr μ 32 g) (gTo μ 32 g) else 1000
def cst (μ : Mem) (s : Int) : Nat → Int → Int → Int
  | 0, _, acc => acc
  | n + 1, g, acc => cst μ s n (g + 1) (acc + gHd μ 32 g * ech μ s g)
theorem cst_s {μ : Mem} {s : Int} {n : Nat} {g acc : Int} : cst μ s (n + 1) g acc = cst μ s n (g + 1) (acc + gHd μ 32 g * ech μ s g) := rfl
def cost (μ : Mem) (s : Int) : Int := cst μ s (μ 32 2).toNat 0 0

set_option maxRecDepth 20000 in
theorem l_costIfRight {μ : Mem} (hL : LOK μ 32) (hO : POK μ 80) (hA : ∀ p t, gArm μ 32 p t ≤ 5) (hln : ∀ r, 0 ≤ gLn μ 32 r ∧ gLn μ 32 r ≤ 99) {s : Int} (hs : inR s) {R : Int} {X : ZX} (hX : isM X (fun w m => w = vi R ∧ Fr μ m)) : ∀ (n : Nat) (g acc : Int) (y4 y5 y6 y7 : AV) (ν : Mem), (g + n = μ 32 2) → (0 ≤ g) → (Fr μ ν) → (cst μ s n g acc = R) → V X mX1_costIfRight 4 [vr 112, vi s, vi acc, vi g, y4, y5, y6, y7] [] ν := by
  intro n
  induction n with
  | zero =>
    intro g acc y4 y5 y6 y7 ν h1 h2 hw hR
    have hg := hw.ag
    have hLn := LOK_ag hg hL
    have hOn := POK_ag hg hO
    have hAn : ∀ p t, gArm ν 32 p t ≤ 5 := fun p t => by rw [gArm_ag hg]; exact hA p t
    have e2 : ν 32 2 = μ 32 2 := by rw [hg 32 (by decide)]
    obtain ⟨hL0, hL1, hL2, -⟩ := id hL
    have r1 := gFr_rg hL g
    have r2 := gTo_rg hL g
    refine V_iloadn (pc := 4) dX1_costIfRight_4 rfl ?_
    refine V_aloadn (pc := 5) dX1_costIfRight_5 rfl ?_
    refine V_getr (pc := 6) dX1_costIfRight_6 fX1_15 zk_112 zr_112_0 ?_
    refine V_cv0 (pc := 9) dX1_costIfRight_9 kX1_23 zk_32 (by decide) (Nat.le_of_ble_eq_true rfl) (s_travels LandAt_32) rfl ?_
    rw [e2]
    refine V_icmp_ge (pc := 12) (tgt := 117) dX1_costIfRight_12 (by decide) (by omega) (by omega) (fun h12 => ?_) (fun h12 => ?_)
    · refine V_iloadn (pc := 117) dX1_costIfRight_117 rfl ?_
      refine V_iret hX dX1_costIfRight_118 rfl ?_
      exact ⟨congrArg vi hR, hw⟩
    · exfalso; omega
  | succ n ih =>
    intro g acc y4 y5 y6 y7 ν h1 h2 hw hR
    have hg := hw.ag
    have hLn := LOK_ag hg hL
    have hOn := POK_ag hg hO
    have hAn : ∀ p t, gArm ν 32 p t ≤ 5 := fun p t => by rw [gArm_ag hg]; exact hA p t
    have e2 : ν 32 2 = μ 32 2 := by rw [hg 32 (by decide)]
    obtain ⟨hL0, hL1, hL2, -⟩ := id hL
    have r1 := gFr_rg hL g
    have r2 := gTo_rg hL g
    refine V_iloadn (pc := 4) dX1_costIfRight_4 rfl ?_
    refine V_aloadn (pc := 5) dX1_costIfRight_5 rfl ?_
    refine V_getr (pc := 6) dX1_costIfRight_6 fX1_15 zk_112 zr_112_0 ?_
    refine V_cv0 (pc := 9) dX1_costIfRight_9 kX1_23 zk_32 (by decide) (Nat.le_of_ble_eq_true rfl) (s_travels LandAt_32) rfl ?_
    rw [e2]
    refine V_icmp_ge (pc := 12) (tgt := 117) dX1_costIfRight_12 (by decide) (by omega) (by omega) (fun h12 => ?_) (fun h12 => ?_)
    · exfalso; omega
    · refine V_aloadn (pc := 15) dX1_costIfRight_15 rfl ?_
      refine V_getr (pc := 16) dX1_costIfRight_16 fX1_15 zk_112 zr_112_0 ?_
      refine V_iloadn (pc := 19) dX1_costIfRight_19 rfl ?_
      refine V_cv1 (pc := 20) dX1_costIfRight_20 kX1_29 zk_32 (by decide) (Nat.le_of_ble_eq_true rfl) (s_travelFrom LandAt_32 hLn (by omega)) rfl ?_
      rw [gFr_ag hg]
      refine V_istore_4 (pc := 23) dX1_costIfRight_23 (by decide) rfl ?_
      refine V_aloadn (pc := 25) dX1_costIfRight_25 rfl ?_
      refine V_getr (pc := 26) dX1_costIfRight_26 fX1_15 zk_112 zr_112_0 ?_
      refine V_iloadn (pc := 29) dX1_costIfRight_29 rfl ?_
      refine V_cv1 (pc := 30) dX1_costIfRight_30 kX1_33 zk_32 (by decide) (Nat.le_of_ble_eq_true rfl) (s_travelTo LandAt_32 hLn (by omega)) rfl ?_
      rw [gTo_ag hg]
      refine V_istore_5 (pc := 33) dX1_costIfRight_33 (by decide) rfl ?_
      refine V_aloadn (pc := 35) dX1_costIfRight_35 rfl ?_
      refine V_getr (pc := 36) dX1_costIfRight_36 fX1_19 zk_112 zr_112_1 ?_
      refine V_iload (pc := 39) dX1_costIfRight_39 rfl ?_
      refine V_iload (pc := 41) dX1_costIfRight_41 rfl ?_
      refine V_iloadn (pc := 43) dX1_costIfRight_43 rfl ?_
      refine V_cq3 (pc := 44) dX1_costIfRight_44 kX1_36 zk_96 (by decide) (Nat.le_of_ble_eq_true rfl) (s_goFromTo hLn hOn hAn (by omega) (by omega) (by omega)) ?_
      intro w m hm
      obtain ⟨rfl, hm⟩ := hm
      rw [wkF_ag hg] at hm
      have hg2 := Ag.tr hg hm.ag
      have hw2 := Fr.tr hw hm.fr
      have hLm := LOK_ag hg2 hL
      have rr := wkF_rg μ hln (gFr μ 32 g) (gTo μ 32 g) s
      show V X _ _ _ _ m
      refine V_aloadn (pc := 47) dX1_costIfRight_47 rfl ?_
      refine V_getr (pc := 48) dX1_costIfRight_48 fX1_19 zk_112 zr_112_1 ?_
      refine V_cv0 (pc := 51) dX1_costIfRight_51 kX1_42 zk_96 (by decide) (Nat.le_of_ble_eq_true rfl) (s_ending) rfl ?_
      rw [hm.2.1]
      refine V_iconst (pc := 54) dX1_costIfRight_54 ?_
      refine V_icmp_ne (pc := 55) (tgt := 62) dX1_costIfRight_55 (by decide) (by omega) (by decide) (fun h55 => ?_) (fun h55 => ?_)
      · refine V_iconst (pc := 62) dX1_costIfRight_62 ?_
        refine V_istore_6 (pc := 63) dX1_costIfRight_63 (by decide) rfl ?_
        refine V_iload (pc := 65) dX1_costIfRight_65 rfl ?_
        refine V_if_eq (pc := 67) (tgt := 92) dX1_costIfRight_67 (by decide) (by omega) (fun h67 => ?_) (fun h67 => ?_)
        · refine V_sipush (pc := 92) dX1_costIfRight_92 (by decide +kernel) ?_
          refine V_istore_7 (pc := 95) dX1_costIfRight_95 (by decide) rfl ?_
          refine V_iloadn (pc := 97) dX1_costIfRight_97 rfl ?_
          refine V_aloadn (pc := 98) dX1_costIfRight_98 rfl ?_
          refine V_getr (pc := 99) dX1_costIfRight_99 fX1_15 zk_112 zr_112_0 ?_
          refine V_iloadn (pc := 102) dX1_costIfRight_102 rfl ?_
          refine V_cv1 (pc := 103) dX1_costIfRight_103 kX1_52 zk_32 (by decide) (Nat.le_of_ble_eq_true rfl) (s_travelHeads LandAt_32 hLm (by omega)) rfl ?_
          rw [gHd_ag hg2]
          refine V_iload (pc := 106) dX1_costIfRight_106 rfl ?_
          refine V_imul (pc := 108) dX1_costIfRight_108 ?_
          refine V_iadd (pc := 109) dX1_costIfRight_109 ?_
          refine V_istore_2 (pc := 110) dX1_costIfRight_110 (by decide) rfl ?_
          refine V_iinc_3 (pc := 111) dX1_costIfRight_111 (by decide) rfl ?_
          refine V_goto (pc := 114) (tgt := 4) dX1_costIfRight_114 (by decide) ?_
          exact ih _ _ _ _ _ _ _ (by omega) (by omega) hw2 (by rw [← hR, cst_s]; unfold ech; first | (exfalso; omega) | rw [if_pos (by omega)] | rw [if_neg (by omega)])
        · refine V_aloadn (pc := 70) dX1_costIfRight_70 rfl ?_
          refine V_getr (pc := 71) dX1_costIfRight_71 fX1_19 zk_112 zr_112_1 ?_
          refine V_cv0 (pc := 74) dX1_costIfRight_74 kX1_45 zk_96 (by decide) (Nat.le_of_ble_eq_true rfl) (s_milesGone) rfl ?_
          rw [hm.2.2.1]
          refine V_aloadn (pc := 77) dX1_costIfRight_77 rfl ?_
          refine V_getr (pc := 78) dX1_costIfRight_78 fX1_15 zk_112 zr_112_0 ?_
          refine V_iload (pc := 81) dX1_costIfRight_81 rfl ?_
          refine V_iload (pc := 83) dX1_costIfRight_83 rfl ?_
          refine V_cv2 (pc := 85) dX1_costIfRight_85 kX1_48 zk_32 (by decide) (Nat.le_of_ble_eq_true rfl) (s_fewestMiles LandAt_32 hLm (by omega) (by omega)) rfl ?_
          rw [gFar_ag hg2]
          refine V_isub (pc := 88) dX1_costIfRight_88 ?_
          refine V_goto (pc := 89) (tgt := 95) dX1_costIfRight_89 (by decide) ?_
          refine V_istore_7 (pc := 95) dX1_costIfRight_95 (by decide) rfl ?_
          refine V_iloadn (pc := 97) dX1_costIfRight_97 rfl ?_
          refine V_aloadn (pc := 98) dX1_costIfRight_98 rfl ?_
          refine V_getr (pc := 99) dX1_costIfRight_99 fX1_15 zk_112 zr_112_0 ?_
          refine V_iloadn (pc := 102) dX1_costIfRight_102 rfl ?_
          refine V_cv1 (pc := 103) dX1_costIfRight_103 kX1_52 zk_32 (by decide) (Nat.le_of_ble_eq_true rfl) (s_travelHeads LandAt_32 hLm (by omega)) rfl ?_
          rw [gHd_ag hg2]
          refine V_iload (pc := 106) dX1_costIfRight_106 rfl ?_
          refine V_imul (pc := 108) dX1_costIfRight_108 ?_
          refine V_iadd (pc := 109) dX1_costIfRight_109 ?_
          refine V_istore_2 (pc := 110) dX1_costIfRight_110 (by decide) rfl ?_
          refine V_iinc_3 (pc := 111) dX1_costIfRight_111 (by decide) rfl ?_
          refine V_goto (pc := 114) (tgt := 4) dX1_costIfRight_114 (by decide) ?_
          exact ih _ _ _ _ _ _ _ (by omega) (by omega) hw2 (by rw [← hR, cst_s]; unfold ech; first | (exfalso; omega) | rw [if_pos (by omega)] | rw [if_neg (by omega)])
      · refine V_iconst (pc := 58) dX1_costIfRight_58 ?_
        refine V_goto (pc := 59) (tgt := 63) dX1_costIfRight_59 (by decide) ?_
        refine V_istore_6 (pc := 63) dX1_costIfRight_63 (by decide) rfl ?_
        refine V_iload (pc := 65) dX1_costIfRight_65 rfl ?_
        refine V_if_eq (pc := 67) (tgt := 92) dX1_costIfRight_67 (by decide) (by omega) (fun h67 => ?_) (fun h67 => ?_)
        · refine V_sipush (pc := 92) dX1_costIfRight_92 (by decide +kernel) ?_
          refine V_istore_7 (pc := 95) dX1_costIfRight_95 (by decide) rfl ?_
          refine V_iloadn (pc := 97) dX1_costIfRight_97 rfl ?_
          refine V_aloadn (pc := 98) dX1_costIfRight_98 rfl ?_
          refine V_getr (pc := 99) dX1_costIfRight_99 fX1_15 zk_112 zr_112_0 ?_
          refine V_iloadn (pc := 102) dX1_costIfRight_102 rfl ?_
          refine V_cv1 (pc := 103) dX1_costIfRight_103 kX1_52 zk_32 (by decide) (Nat.le_of_ble_eq_true rfl) (s_travelHeads LandAt_32 hLm (by omega)) rfl ?_
          rw [gHd_ag hg2]
          refine V_iload (pc := 106) dX1_costIfRight_106 rfl ?_
          refine V_imul (pc := 108) dX1_costIfRight_108 ?_
          refine V_iadd (pc := 109) dX1_costIfRight_109 ?_
          refine V_istore_2 (pc := 110) dX1_costIfRight_110 (by decide) rfl ?_
          refine V_iinc_3 (pc := 111) dX1_costIfRight_111 (by decide) rfl ?_
          refine V_goto (pc := 114) (tgt := 4) dX1_costIfRight_114 (by decide) ?_
          exact ih _ _ _ _ _ _ _ (by omega) (by omega) hw2 (by rw [← hR, cst_s]; unfold ech; first | (exfalso; omega) | rw [if_pos (by omega)] | rw [if_neg (by omega)])
        · refine V_aloadn (pc := 70) dX1_costIfRight_70 rfl ?_
          refine V_getr (pc := 71) dX1_costIfRight_71 fX1_19 zk_112 zr_112_1 ?_
          refine V_cv0 (pc := 74) dX1_costIfRight_74 kX1_45 zk_96 (by decide) (Nat.le_of_ble_eq_true rfl) (s_milesGone) rfl ?_
          rw [hm.2.2.1]
          refine V_aloadn (pc := 77) dX1_costIfRight_77 rfl ?_
          refine V_getr (pc := 78) dX1_costIfRight_78 fX1_15 zk_112 zr_112_0 ?_
          refine V_iload (pc := 81) dX1_costIfRight_81 rfl ?_
          refine V_iload (pc := 83) dX1_costIfRight_83 rfl ?_
          refine V_cv2 (pc := 85) dX1_costIfRight_85 kX1_48 zk_32 (by decide) (Nat.le_of_ble_eq_true rfl) (s_fewestMiles LandAt_32 hLm (by omega) (by omega)) rfl ?_
          rw [gFar_ag hg2]
          refine V_isub (pc := 88) dX1_costIfRight_88 ?_
          refine V_goto (pc := 89) (tgt := 95) dX1_costIfRight_89 (by decide) ?_
          refine V_istore_7 (pc := 95) dX1_costIfRight_95 (by decide) rfl ?_
          refine V_iloadn (pc := 97) dX1_costIfRight_97 rfl ?_
          refine V_aloadn (pc := 98) dX1_costIfRight_98 rfl ?_
          refine V_getr (pc := 99) dX1_costIfRight_99 fX1_15 zk_112 zr_112_0 ?_
          refine V_iloadn (pc := 102) dX1_costIfRight_102 rfl ?_
          refine V_cv1 (pc := 103) dX1_costIfRight_103 kX1_52 zk_32 (by decide) (Nat.le_of_ble_eq_true rfl) (s_travelHeads LandAt_32 hLm (by omega)) rfl ?_
          rw [gHd_ag hg2]
          refine V_iload (pc := 106) dX1_costIfRight_106 rfl ?_
          refine V_imul (pc := 108) dX1_costIfRight_108 ?_
          refine V_iadd (pc := 109) dX1_costIfRight_109 ?_
          refine V_istore_2 (pc := 110) dX1_costIfRight_110 (by decide) rfl ?_
          refine V_iinc_3 (pc := 111) dX1_costIfRight_111 (by decide) rfl ?_
          refine V_goto (pc := 114) (tgt := 4) dX1_costIfRight_114 (by decide) ?_
          exact ih _ _ _ _ _ _ _ (by omega) (by omega) hw2 (by rw [← hR, cst_s]; unfold ech; first | (exfalso; omega) | rw [if_pos (by omega)] | rw [if_neg (by omega)])

set_option maxRecDepth 20000 in
theorem s_costIfRight {μ : Mem} (hL : LOK μ 32) (hO : POK μ 80) (hA : ∀ p t, gArm μ 32 p t ≤ 5) (hln : ∀ r, 0 ≤ gLn μ 32 r ∧ gLn μ 32 r ≤ 99) {s : Int} (hs : inR s) : SP mX1_costIfRight [vr 112, vi s] μ (fun w m => w = vi (cost μ s) ∧ Fr μ m) := by
  refine SP_intro (ls := [vr 112, vi s, un, un, un, un, un, un]) (by decide +kernel) rfl rfl (Nat.le_of_ble_eq_true rfl) rfl (fun X hX => ?_)
  obtain ⟨hL0, hL1, hL2, -⟩ := id hL
  refine V_iconst (pc := 0) dX1_costIfRight_0 ?_
  refine V_istore_2 (pc := 1) dX1_costIfRight_1 (by decide) rfl ?_
  refine V_iconst (pc := 2) dX1_costIfRight_2 ?_
  refine V_istore_3 (pc := 3) dX1_costIfRight_3 (by decide) rfl ?_
  exact l_costIfRight hL hO hA hln hs hX (μ 32 2).toNat 0 0 _ _ _ _ μ (by omega) (by omega) (Fr.rf μ) rfl

set_option maxRecDepth 20000 in
theorem l_allCome {μ : Mem} (hL : LOK μ 32) (hO : POK μ 80) (hA : ∀ p t, gArm μ 32 p t ≤ 5) (hln : ∀ r, 0 ≤ gLn μ 32 r ∧ gLn μ 32 r ≤ 99) {s : Int} (hs : inR s) {X : ZX} (hX : isM X (fun w m => w = vi (bi (∀ g : Nat, g < (μ 32 2).toNat → ¬ gFar μ 32 (gFr μ 32 g) (gTo μ 32 g) = -1 → (wkF μ (gFr μ 32 g) (gTo μ 32 g) s).1 = 1)) ∧ Fr μ m)) : ∀ (n : Nat) (g : Int) (y3 y4 : AV) (ν : Mem), (g + n = μ 32 2) → (0 ≤ g) → (Fr μ ν) → (∀ u : Nat, u < g.toNat → ¬ gFar μ 32 (gFr μ 32 u) (gTo μ 32 u) = -1 → (wkF μ (gFr μ 32 u) (gTo μ 32 u) s).1 = 1) → V X mX1_allComeIfRight 2 [vr 112, vi s, vi g, y3, y4] [] ν := by
  intro n
  induction n with
  | zero =>
    intro g y3 y4 ν h1 h2 hw h3
    have hg := hw.ag
    have hLn := LOK_ag hg hL
    have hOn := POK_ag hg hO
    have hAn : ∀ p t, gArm ν 32 p t ≤ 5 := fun p t => by rw [gArm_ag hg]; exact hA p t
    have e2 : ν 32 2 = μ 32 2 := by rw [hg 32 (by decide)]
    obtain ⟨hL0, hL1, hL2, -⟩ := id hL
    have r1 := gFr_rg hL g
    have r2 := gTo_rg hL g
    have r3 := gFar_rg hL (gFr μ 32 g) (gTo μ 32 g)
    refine V_iloadn (pc := 2) dX1_allComeIfRight_2 rfl ?_
    refine V_aloadn (pc := 3) dX1_allComeIfRight_3 rfl ?_
    refine V_getr (pc := 4) dX1_allComeIfRight_4 fX1_15 zk_112 zr_112_0 ?_
    refine V_cv0 (pc := 7) dX1_allComeIfRight_7 kX1_23 zk_32 (by decide) (Nat.le_of_ble_eq_true rfl) (s_travels LandAt_32) rfl ?_
    rw [e2]
    refine V_icmp_ge (pc := 10) (tgt := 76) dX1_allComeIfRight_10 (by decide) (by omega) (by omega) (fun h10 => ?_) (fun h10 => ?_)
    · refine V_iconst (pc := 76) dX1_allComeIfRight_76 ?_
      refine V_zret hX dX1_allComeIfRight_77 rfl (by first | exact Or.inl rfl | exact Or.inr rfl | exact bi_01 _) ?_
      exact ⟨congrArg vi (bi_pos (fun u hu => h3 u (by omega))).symm, hw⟩
    · exfalso; omega
  | succ n ih =>
    intro g y3 y4 ν h1 h2 hw h3
    have hg := hw.ag
    have hLn := LOK_ag hg hL
    have hOn := POK_ag hg hO
    have hAn : ∀ p t, gArm ν 32 p t ≤ 5 := fun p t => by rw [gArm_ag hg]; exact hA p t
    have e2 : ν 32 2 = μ 32 2 := by rw [hg 32 (by decide)]
    obtain ⟨hL0, hL1, hL2, -⟩ := id hL
    have r1 := gFr_rg hL g
    have r2 := gTo_rg hL g
    have r3 := gFar_rg hL (gFr μ 32 g) (gTo μ 32 g)
    refine V_iloadn (pc := 2) dX1_allComeIfRight_2 rfl ?_
    refine V_aloadn (pc := 3) dX1_allComeIfRight_3 rfl ?_
    refine V_getr (pc := 4) dX1_allComeIfRight_4 fX1_15 zk_112 zr_112_0 ?_
    refine V_cv0 (pc := 7) dX1_allComeIfRight_7 kX1_23 zk_32 (by decide) (Nat.le_of_ble_eq_true rfl) (s_travels LandAt_32) rfl ?_
    rw [e2]
    refine V_icmp_ge (pc := 10) (tgt := 76) dX1_allComeIfRight_10 (by decide) (by omega) (by omega) (fun h10 => ?_) (fun h10 => ?_)
    · exfalso; omega
    · refine V_aloadn (pc := 13) dX1_allComeIfRight_13 rfl ?_
      refine V_getr (pc := 14) dX1_allComeIfRight_14 fX1_15 zk_112 zr_112_0 ?_
      refine V_iloadn (pc := 17) dX1_allComeIfRight_17 rfl ?_
      refine V_cv1 (pc := 18) dX1_allComeIfRight_18 kX1_29 zk_32 (by decide) (Nat.le_of_ble_eq_true rfl) (s_travelFrom LandAt_32 hLn (by omega)) rfl ?_
      rw [gFr_ag hg]
      refine V_istore_3 (pc := 21) dX1_allComeIfRight_21 (by decide) rfl ?_
      refine V_aloadn (pc := 22) dX1_allComeIfRight_22 rfl ?_
      refine V_getr (pc := 23) dX1_allComeIfRight_23 fX1_15 zk_112 zr_112_0 ?_
      refine V_iloadn (pc := 26) dX1_allComeIfRight_26 rfl ?_
      refine V_cv1 (pc := 27) dX1_allComeIfRight_27 kX1_33 zk_32 (by decide) (Nat.le_of_ble_eq_true rfl) (s_travelTo LandAt_32 hLn (by omega)) rfl ?_
      rw [gTo_ag hg]
      refine V_istore_4 (pc := 30) dX1_allComeIfRight_30 (by decide) rfl ?_
      refine V_aloadn (pc := 32) dX1_allComeIfRight_32 rfl ?_
      refine V_getr (pc := 33) dX1_allComeIfRight_33 fX1_15 zk_112 zr_112_0 ?_
      refine V_iloadn (pc := 36) dX1_allComeIfRight_36 rfl ?_
      refine V_iload (pc := 37) dX1_allComeIfRight_37 rfl ?_
      refine V_cv2 (pc := 39) dX1_allComeIfRight_39 kX1_48 zk_32 (by decide) (Nat.le_of_ble_eq_true rfl) (s_fewestMiles LandAt_32 hLn (by omega) (by omega)) rfl ?_
      rw [gFar_ag hg]
      refine V_iconst (pc := 42) dX1_allComeIfRight_42 ?_
      refine V_icmp_eq (pc := 43) (tgt := 70) dX1_allComeIfRight_43 (by decide) (by omega) (by decide) (fun h43 => ?_) (fun h43 => ?_)
      · refine V_iinc_2 (pc := 70) dX1_allComeIfRight_70 (by decide) rfl ?_
        refine V_goto (pc := 73) (tgt := 2) dX1_allComeIfRight_73 (by decide) ?_
        first
          | exact ih _ _ _ _ (by omega) (by omega) hw2 (fun u hu hf => by
            by_cases e : u < g.toNat
            · exact h3 u e hf
            · have e3 : (u : Int) = g := by omega
              rw [e3] at hf ⊢; first | omega | exact absurd (by omega) hf)
          | exact ih _ _ _ _ (by omega) (by omega) hw (fun u hu hf => by
            by_cases e : u < g.toNat
            · exact h3 u e hf
            · have e3 : (u : Int) = g := by omega
              rw [e3] at hf ⊢; first | omega | exact absurd (by omega) hf)
      · refine V_aloadn (pc := 46) dX1_allComeIfRight_46 rfl ?_
        refine V_getr (pc := 47) dX1_allComeIfRight_47 fX1_19 zk_112 zr_112_1 ?_
        refine V_iloadn (pc := 50) dX1_allComeIfRight_50 rfl ?_
        refine V_iload (pc := 51) dX1_allComeIfRight_51 rfl ?_
        refine V_iloadn (pc := 53) dX1_allComeIfRight_53 rfl ?_
        refine V_cq3 (pc := 54) dX1_allComeIfRight_54 kX1_36 zk_96 (by decide) (Nat.le_of_ble_eq_true rfl) (s_goFromTo hLn hOn hAn (by omega) (by omega) (by omega)) ?_
        intro w m hm
        obtain ⟨rfl, hm⟩ := hm
        rw [wkF_ag hg] at hm
        have hg2 := Ag.tr hg hm.ag
        have hw2 := Fr.tr hw hm.fr
        have hLm := LOK_ag hg2 hL
        have rr := wkF_rg μ hln (gFr μ 32 g) (gTo μ 32 g) s
        show V X _ _ _ _ m
        refine V_aloadn (pc := 57) dX1_allComeIfRight_57 rfl ?_
        refine V_getr (pc := 58) dX1_allComeIfRight_58 fX1_19 zk_112 zr_112_1 ?_
        refine V_cv0 (pc := 61) dX1_allComeIfRight_61 kX1_42 zk_96 (by decide) (Nat.le_of_ble_eq_true rfl) (s_ending) rfl ?_
        rw [hm.2.1]
        refine V_iconst (pc := 64) dX1_allComeIfRight_64 ?_
        refine V_icmp_eq (pc := 65) (tgt := 70) dX1_allComeIfRight_65 (by decide) (by omega) (by decide) (fun h65 => ?_) (fun h65 => ?_)
        · refine V_iinc_2 (pc := 70) dX1_allComeIfRight_70 (by decide) rfl ?_
          refine V_goto (pc := 73) (tgt := 2) dX1_allComeIfRight_73 (by decide) ?_
          first
            | exact ih _ _ _ _ (by omega) (by omega) hw2 (fun u hu hf => by
              by_cases e : u < g.toNat
              · exact h3 u e hf
              · have e3 : (u : Int) = g := by omega
                rw [e3] at hf ⊢; first | omega | exact absurd (by omega) hf)
            | exact ih _ _ _ _ (by omega) (by omega) hw (fun u hu hf => by
              by_cases e : u < g.toNat
              · exact h3 u e hf
              · have e3 : (u : Int) = g := by omega
                rw [e3] at hf ⊢; first | omega | exact absurd (by omega) hf)
        · refine V_iconst (pc := 68) dX1_allComeIfRight_68 ?_
          refine V_zret hX dX1_allComeIfRight_69 rfl (by first | exact Or.inl rfl | exact Or.inr rfl | exact bi_01 _) ?_
          exact ⟨congrArg vi (bi_neg (fun h => by have h5 := h g.toNat (by omega); rw [show ((g.toNat : Nat) : Int) = g by omega] at h5; omega)).symm, hw2⟩

set_option maxRecDepth 20000 in
theorem s_allCome {μ : Mem} (hL : LOK μ 32) (hO : POK μ 80) (hA : ∀ p t, gArm μ 32 p t ≤ 5) (hln : ∀ r, 0 ≤ gLn μ 32 r ∧ gLn μ 32 r ≤ 99) {s : Int} (hs : inR s) : SP mX1_allComeIfRight [vr 112, vi s] μ (fun w m => w = vi (bi (∀ g : Nat, g < (μ 32 2).toNat → ¬ gFar μ 32 (gFr μ 32 g) (gTo μ 32 g) = -1 → (wkF μ (gFr μ 32 g) (gTo μ 32 g) s).1 = 1)) ∧ Fr μ m) := by
  refine SP_intro (ls := [vr 112, vi s, un, un, un]) (by decide +kernel) rfl rfl (Nat.le_of_ble_eq_true rfl) rfl (fun X hX => ?_)
  obtain ⟨hL0, hL1, hL2, -⟩ := id hL
  refine V_iconst (pc := 0) dX1_allComeIfRight_0 ?_
  refine V_istore_2 (pc := 1) dX1_allComeIfRight_1 (by decide) rfl ?_
  exact l_allCome hL hO hA hln hs hX (μ 32 2).toNat 0 _ _ μ (by omega) (by omega) (Fr.rf μ) (fun u hu => by omega)

def fwr (μ : Mem) : Nat → Int → Int
  | 0, _ => -1
  | n + 1, k => if (wkF μ (μ 161 k.toNat) (μ 162 k.toNat) 0).1 = μ 163 k.toNat ∧ (wkF μ (μ 161 k.toNat) (μ 162 k.toNat) 0).2.1 = μ 164 k.toNat then fwr μ n (k + 1) else k
theorem fwr_s {μ : Mem} {n : Nat} {k : Int} : fwr μ (n + 1) k = if (wkF μ (μ 161 k.toNat) (μ 162 k.toNat) 0).1 = μ 163 k.toNat ∧ (wkF μ (μ 161 k.toNat) (μ 162 k.toNat) 0).2.1 = μ 164 k.toNat then fwr μ n (k + 1) else k := rfl
/-- the book in its bounds -/
def BOK (μ : Mem) : Prop := (0 ≤ μ 160 4 ∧ μ 160 4 ≤ 20) ∧ ∀ k j : Nat, 161 ≤ k → k ≤ 164 → inR (μ k j)

set_option maxRecDepth 20000 in
theorem l_firstWrong {μ : Mem} (hL : LOK μ 32) (hO : POK μ 80) (hA : ∀ p t, gArm μ 32 p t ≤ 5) (hln : ∀ r, 0 ≤ gLn μ 32 r ∧ gLn μ 32 r ≤ 99) (hB : BOK μ) {R : Int} {X : ZX} (hX : isM X (fun w m => w = vi R ∧ Fr μ m)) : ∀ (n : Nat) (k : Int) (ν : Mem), (k + n = μ 160 4) → (0 ≤ k) → (Fr μ ν) → (fwr μ n k = R) → V X mX0_firstWrong 2 [vr 160, vr 96, vi k] [] ν := by
  intro n
  induction n with
  | zero =>
    intro k ν h1 h2 hw hR
    have hg := hw.ag
    have hLn := LOK_ag hg hL
    have hOn := POK_ag hg hO
    have hAn : ∀ p t, gArm ν 32 p t ≤ 5 := fun p t => by rw [gArm_ag hg]; exact hA p t
    have q0 := hw 160 (by decide) (by decide)
    have q1 := hw 161 (by decide) (by decide)
    have q2 := hw 162 (by decide) (by decide)
    have q3 := hw 163 (by decide) (by decide)
    have q4 := hw 164 (by decide) (by decide)
    obtain ⟨hb0, hb1⟩ := id hB
    have r1 := hb1 161 k.toNat (by decide) (by decide)
    have r2 := hb1 162 k.toNat (by decide) (by decide)
    have r3 := hb1 163 k.toNat (by decide) (by decide)
    have r4 := hb1 164 k.toNat (by decide) (by decide)
    refine V_iloadn (pc := 2) dX0_firstWrong_2 rfl ?_
    refine V_aloadn (pc := 3) dX0_firstWrong_3 rfl ?_
    refine V_geti (r := 0) (pc := 4) dX0_firstWrong_4 fX0_24 zk_160 ?_
    rw [q0]
    refine V_icmp_ge (pc := 7) (tgt := 67) dX0_firstWrong_7 (by decide) (by omega) (by omega) (fun h7 => ?_) (fun h7 => ?_)
    · refine V_iconst (pc := 67) dX0_firstWrong_67 ?_
      refine V_iret hX dX0_firstWrong_68 rfl ?_
      exact ⟨congrArg vi hR, hw⟩
    · exfalso; omega
  | succ n ih =>
    intro k ν h1 h2 hw hR
    have hg := hw.ag
    have hLn := LOK_ag hg hL
    have hOn := POK_ag hg hO
    have hAn : ∀ p t, gArm ν 32 p t ≤ 5 := fun p t => by rw [gArm_ag hg]; exact hA p t
    have q0 := hw 160 (by decide) (by decide)
    have q1 := hw 161 (by decide) (by decide)
    have q2 := hw 162 (by decide) (by decide)
    have q3 := hw 163 (by decide) (by decide)
    have q4 := hw 164 (by decide) (by decide)
    obtain ⟨hb0, hb1⟩ := id hB
    have r1 := hb1 161 k.toNat (by decide) (by decide)
    have r2 := hb1 162 k.toNat (by decide) (by decide)
    have r3 := hb1 163 k.toNat (by decide) (by decide)
    have r4 := hb1 164 k.toNat (by decide) (by decide)
    refine V_iloadn (pc := 2) dX0_firstWrong_2 rfl ?_
    refine V_aloadn (pc := 3) dX0_firstWrong_3 rfl ?_
    refine V_geti (r := 0) (pc := 4) dX0_firstWrong_4 fX0_24 zk_160 ?_
    rw [q0]
    refine V_icmp_ge (pc := 7) (tgt := 67) dX0_firstWrong_7 (by decide) (by omega) (by omega) (fun h7 => ?_) (fun h7 => ?_)
    · exfalso; omega
    · refine V_iloadn (pc := 10) dX0_firstWrong_10 rfl ?_
      refine V_bipush (pc := 11) dX0_firstWrong_11 (by decide +kernel) ?_
      refine V_icmp_ge (pc := 13) (tgt := 67) dX0_firstWrong_13 (by decide) (by omega) (by decide) (fun h13 => ?_) (fun h13 => ?_)
      · exfalso; omega
      · refine V_aloadn (pc := 16) dX0_firstWrong_16 rfl ?_
        refine V_aloadn (pc := 17) dX0_firstWrong_17 rfl ?_
        refine V_getr (pc := 18) dX0_firstWrong_18 fX0_9 zk_160 zr_160_0 ?_
        refine V_iloadn (pc := 21) dX0_firstWrong_21 rfl ?_
        refine V_iald (pc := 22) dX0_firstWrong_22 zk_161 (by omega) (by omega) (by decide) ?_
        rw [q1]
        refine V_aloadn (pc := 23) dX0_firstWrong_23 rfl ?_
        refine V_getr (pc := 24) dX0_firstWrong_24 fX0_15 zk_160 zr_160_1 ?_
        refine V_iloadn (pc := 27) dX0_firstWrong_27 rfl ?_
        refine V_iald (pc := 28) dX0_firstWrong_28 zk_162 (by omega) (by omega) (by decide) ?_
        rw [q2]
        refine V_iconst (pc := 29) dX0_firstWrong_29 ?_
        refine V_cq3 (pc := 30) dX0_firstWrong_30 kX0_28 zk_96 (by decide) (Nat.le_of_ble_eq_true rfl) (s_goFromTo hLn hOn hAn (by omega) (by omega) (by decide)) ?_
        intro w m hm
        obtain ⟨rfl, hm⟩ := hm
        rw [wkF_ag hg] at hm
        have hw2 := Fr.tr hw hm.fr
        have q3 := hw2 163 (by decide) (by decide)
        have q4 := hw2 164 (by decide) (by decide)
        have rr := wkF_rg μ hln (μ 161 k.toNat) (μ 162 k.toNat) 0
        show V X _ _ _ _ m
        refine V_aloadn (pc := 33) dX0_firstWrong_33 rfl ?_
        refine V_cv0 (pc := 34) dX0_firstWrong_34 kX0_34 zk_96 (by decide) (Nat.le_of_ble_eq_true rfl) (s_ending) rfl ?_
        rw [hm.2.1]
        refine V_aloadn (pc := 37) dX0_firstWrong_37 rfl ?_
        refine V_getr (pc := 38) dX0_firstWrong_38 fX0_18 zk_160 zr_160_2 ?_
        refine V_iloadn (pc := 41) dX0_firstWrong_41 rfl ?_
        refine V_iald (pc := 42) dX0_firstWrong_42 zk_163 (by omega) (by omega) (by decide) ?_
        rw [q3]
        refine V_icmp_ne (pc := 43) (tgt := 59) dX0_firstWrong_43 (by decide) (by omega) (by omega) (fun h43 => ?_) (fun h43 => ?_)
        · refine V_iloadn (pc := 59) dX0_firstWrong_59 rfl ?_
          refine V_iret hX dX0_firstWrong_60 rfl ?_
          exact ⟨congrArg vi (by rw [← hR, fwr_s, if_neg (by omega)]), hw2⟩
        · refine V_aloadn (pc := 46) dX0_firstWrong_46 rfl ?_
          refine V_cv0 (pc := 47) dX0_firstWrong_47 kX0_38 zk_96 (by decide) (Nat.le_of_ble_eq_true rfl) (s_milesGone) rfl ?_
          rw [hm.2.2.1]
          refine V_aloadn (pc := 50) dX0_firstWrong_50 rfl ?_
          refine V_getr (pc := 51) dX0_firstWrong_51 fX0_21 zk_160 zr_160_3 ?_
          refine V_iloadn (pc := 54) dX0_firstWrong_54 rfl ?_
          refine V_iald (pc := 55) dX0_firstWrong_55 zk_164 (by omega) (by omega) (by decide) ?_
          rw [q4]
          refine V_icmp_eq (pc := 56) (tgt := 61) dX0_firstWrong_56 (by decide) (by omega) (by omega) (fun h56 => ?_) (fun h56 => ?_)
          · refine V_iinc_2 (pc := 61) dX0_firstWrong_61 (by decide) rfl ?_
            refine V_goto (pc := 64) (tgt := 2) dX0_firstWrong_64 (by decide) ?_
            exact ih _ _ (by omega) (by omega) hw2 (by rw [← hR, fwr_s, if_pos (by omega)])
          · refine V_iloadn (pc := 59) dX0_firstWrong_59 rfl ?_
            refine V_iret hX dX0_firstWrong_60 rfl ?_
            exact ⟨congrArg vi (by rw [← hR, fwr_s, if_neg (by omega)]), hw2⟩

set_option maxRecDepth 20000 in
theorem s_firstWrong {μ : Mem} (hL : LOK μ 32) (hO : POK μ 80) (hA : ∀ p t, gArm μ 32 p t ≤ 5) (hln : ∀ r, 0 ≤ gLn μ 32 r ∧ gLn μ 32 r ≤ 99) (hB : BOK μ) : SP mX0_firstWrong [vr 160, vr 96] μ (fun w m => w = vi (fwr μ (μ 160 4).toNat 0) ∧ Fr μ m) := by
  refine SP_intro (ls := [vr 160, vr 96, un]) (by decide +kernel) rfl rfl (Nat.le_of_ble_eq_true rfl) rfl (fun X hX => ?_)
  obtain ⟨hb0, hb1⟩ := id hB
  refine V_iconst (pc := 0) dX0_firstWrong_0 ?_
  refine V_istore_2 (pc := 1) dX0_firstWrong_1 (by decide) rfl ?_
  exact l_firstWrong hL hO hA hln hB hX (μ 160 4).toNat 0 μ (by omega) (by omega) (Fr.rf μ) rfl


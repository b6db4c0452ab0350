set_option maxRecDepth 20000 in
theorem l_needed2 {μ : Mem} (hC : CI μ) {ν : Mem} (hw : Fr5 μ ν) {U : Row} (hν : ν 115 = U) (hU : ∀ x, x < 9 → 0 ≤ U x ∧ U x ≤ 31) {z R : Int} {X : ZX} (hX : isM X (fun w m => w = vi R ∧ Fr5 μ m)) : ∀ (n : Nat) (q acc : Int), (q + n = μ 32 0) → (0 ≤ q) → (ndS U n q acc = R) → V X mX11_needed 44 [vr 0, vi z, vi acc, vi q] [] ν := by
  intro n
  induction n with
  | zero =>
    intro q acc h1 h2 hR
    obtain ⟨hL, hO, hA, hA0, hln, hS, hB, hT, hsd, hi1, hi2⟩ := id hC
    obtain ⟨hL0, hL1, hL2, hL3, hL4⟩ := id hL
    have hg := hw.ag
    have hLn := LOK_ag hg hL
    have e0 : ν 32 0 = μ 32 0 := by rw [hg 32 (by decide)]
    refine V_iloadn (pc := 44) dX11_needed_44 rfl ?_
    refine V_aloadn (pc := 45) dX11_needed_45 rfl ?_
    refine V_getr (pc := 46) dX11_needed_46 fX11_19 zk_0 zr_0_1 ?_
    refine V_cv0 (pc := 49) dX11_needed_49 kX11_134 zk_32 (by decide) (Nat.le_of_ble_eq_true rfl) (s_places LandAt_32) rfl ?_
    rw [e0]
    refine V_icmp_ge (pc := 52) (tgt := 75) dX11_needed_52 (by decide) (by omega) (by omega) (fun h52 => ?_) (fun h52 => ?_)
    · refine V_iloadn (pc := 75) dX11_needed_75 rfl ?_
      refine V_iret hX dX11_needed_76 rfl ?_
      exact ⟨congrArg vi hR, hw⟩
    · exfalso; omega
  | succ n ih =>
    intro q acc h1 h2 hR
    obtain ⟨hL, hO, hA, hA0, hln, hS, hB, hT, hsd, hi1, hi2⟩ := id hC
    obtain ⟨hL0, hL1, hL2, hL3, hL4⟩ := id hL
    have hg := hw.ag
    have hLn := LOK_ag hg hL
    have e0 : ν 32 0 = μ 32 0 := by rw [hg 32 (by decide)]
    have r1 := hU q.toNat (by omega)
    refine V_iloadn (pc := 44) dX11_needed_44 rfl ?_
    refine V_aloadn (pc := 45) dX11_needed_45 rfl ?_
    refine V_getr (pc := 46) dX11_needed_46 fX11_19 zk_0 zr_0_1 ?_
    refine V_cv0 (pc := 49) dX11_needed_49 kX11_134 zk_32 (by decide) (Nat.le_of_ble_eq_true rfl) (s_places LandAt_32) rfl ?_
    rw [e0]
    refine V_icmp_ge (pc := 52) (tgt := 75) dX11_needed_52 (by decide) (by omega) (by omega) (fun h52 => ?_) (fun h52 => ?_)
    · exfalso; omega
    · refine V_iloadn (pc := 55) dX11_needed_55 rfl ?_
      refine V_aloadn (pc := 56) dX11_needed_56 rfl ?_
      refine V_getr (pc := 57) dX11_needed_57 fX11_58 zk_0 zr_0_6 ?_
      refine V_iloadn (pc := 60) dX11_needed_60 rfl ?_
      refine V_cv1 (pc := 61) dX11_needed_61 kX11_284 zk_112 (by decide) (Nat.le_of_ble_eq_true rfl) (s_neededArms hLn (by omega)) rfl ?_
      rw [if_pos (by omega), hν]
      refine V_cs1 (pc := 64) dX11_needed_64 kX11_261 (by decide) (Nat.le_of_ble_eq_true rfl) (s_bitCount (by omega)) rfl ?_
      refine V_iadd (pc := 67) dX11_needed_67 ?_
      refine V_istore_2 (pc := 68) dX11_needed_68 (by decide) rfl ?_
      refine V_iinc_3 (pc := 69) dX11_needed_69 (by decide) rfl ?_
      refine V_goto (pc := 72) (tgt := 44) dX11_needed_72 (by decide) ?_
      exact ih _ _ (by omega) (by omega) (by rw [← hR, ndS_s])

set_option maxRecDepth 20000 in
theorem t_needed2 {μ : Mem} (hC : CI μ) (hU : ∀ x, x < 9 → 0 ≤ ndF μ x ∧ ndF μ x ≤ 31) {p : Int} (hp : inR p) : SP mX11_needed [vr 0, vi p] μ (fun w m => w = vi (cNeed μ p) ∧ Fr5 μ m) := by
  refine SP_intro (ls := [vr 0, vi p, un, un]) (by decide +kernel) rfl rfl (Nat.le_of_ble_eq_true rfl) rfl (fun X hX => ?_)
  obtain ⟨hL, hO, hA, hA0, hln, hS, hB, hT, hsd, hi1, hi2⟩ := id hC
  obtain ⟨hL0, hL1, hL2, hL3, hL4⟩ := id hL
  refine V_iloadn (pc := 0) dX11_needed_0 rfl ?_
  refine V_iconst (pc := 1) dX11_needed_1 ?_
  refine V_icmp_eq (pc := 2) (tgt := 19) dX11_needed_2 (by decide) (by omega) (by decide) (fun h2 => ?_) (fun h2 => ?_)
  · refine V_aloadn (pc := 19) dX11_needed_19 rfl ?_
    refine V_getr (pc := 20) dX11_needed_20 fX11_58 zk_0 zr_0_6 ?_
    refine V_cq0 (pc := 23) dX11_needed_23 kX11_281 zk_112 (by decide) (Nat.le_of_ble_eq_true rfl) (s_markNeeded hL hO hA hln) ?_
    intro w ν hm
    obtain ⟨rfl, hw, hν⟩ := hm
    have hg := hw.ag
    have hLn := LOK_ag hg hL
    have e0 : ν 32 0 = μ 32 0 := by rw [hg 32 (by decide)]
    show V X _ _ _ _ ν
    refine V_iloadn (pc := 26) dX11_needed_26 rfl ?_
    refine V_iconst (pc := 27) dX11_needed_27 ?_
    refine V_icmp_eq (pc := 28) (tgt := 40) dX11_needed_28 (by decide) (by omega) (by decide) (fun h28 => ?_) (fun h28 => ?_)
    · refine V_iconst (pc := 40) dX11_needed_40 ?_
      refine V_istore_2 (pc := 41) dX11_needed_41 (by decide) rfl ?_
      refine V_iconst (pc := 42) dX11_needed_42 ?_
      refine V_istore_3 (pc := 43) dX11_needed_43 (by decide) rfl ?_
      have e : cNeed μ p = ndS (ndF μ) (μ 32 0).toNat 0 0 := by unfold cNeed; rw [if_pos (by omega)]
      rw [e] at hX
      exact l_needed2 hC hw hν hU hX (μ 32 0).toNat 0 0 (by omega) (by omega) rfl
    · refine V_aloadn (pc := 31) dX11_needed_31 rfl ?_
      refine V_getr (pc := 32) dX11_needed_32 fX11_58 zk_0 zr_0_6 ?_
      refine V_iloadn (pc := 35) dX11_needed_35 rfl ?_
      refine V_cv1 (pc := 36) dX11_needed_36 kX11_284 zk_112 (by decide) (Nat.le_of_ble_eq_true rfl) (s_neededArms hLn hp) rfl ?_
      rw [e0, if_pos (by omega), hν]
      refine V_iret hX dX11_needed_39 rfl ?_
      exact ⟨congrArg vi (by unfold cNeed; rw [if_neg (by omega), if_pos (by omega)]; rfl), hw⟩
  · refine V_aloadn (pc := 5) dX11_needed_5 rfl ?_
    refine V_getr (pc := 6) dX11_needed_6 fX11_19 zk_0 zr_0_1 ?_
    refine V_iloadn (pc := 9) dX11_needed_9 rfl ?_
    refine V_cv1 (pc := 10) dX11_needed_10 kX11_170 zk_32 (by decide) (Nat.le_of_ble_eq_true rfl) (s_hasPlace LandAt_32 hL hp) rfl ?_
    refine V_ifne_b (pc := 13) (tgt := 19) dX11_needed_13 (by decide) (fun h13 => ?_) (fun h13 => ?_)
    · refine V_aloadn (pc := 19) dX11_needed_19 rfl ?_
      refine V_getr (pc := 20) dX11_needed_20 fX11_58 zk_0 zr_0_6 ?_
      refine V_cq0 (pc := 23) dX11_needed_23 kX11_281 zk_112 (by decide) (Nat.le_of_ble_eq_true rfl) (s_markNeeded hL hO hA hln) ?_
      intro w ν hm
      obtain ⟨rfl, hw, hν⟩ := hm
      have hg := hw.ag
      have hLn := LOK_ag hg hL
      have e0 : ν 32 0 = μ 32 0 := by rw [hg 32 (by decide)]
      show V X _ _ _ _ ν
      refine V_iloadn (pc := 26) dX11_needed_26 rfl ?_
      refine V_iconst (pc := 27) dX11_needed_27 ?_
      refine V_icmp_eq (pc := 28) (tgt := 40) dX11_needed_28 (by decide) (by omega) (by decide) (fun h28 => ?_) (fun h28 => ?_)
      · refine V_iconst (pc := 40) dX11_needed_40 ?_
        refine V_istore_2 (pc := 41) dX11_needed_41 (by decide) rfl ?_
        refine V_iconst (pc := 42) dX11_needed_42 ?_
        refine V_istore_3 (pc := 43) dX11_needed_43 (by decide) rfl ?_
        have e : cNeed μ p = ndS (ndF μ) (μ 32 0).toNat 0 0 := by unfold cNeed; rw [if_pos (by omega)]
        rw [e] at hX
        exact l_needed2 hC hw hν hU hX (μ 32 0).toNat 0 0 (by omega) (by omega) rfl
      · refine V_aloadn (pc := 31) dX11_needed_31 rfl ?_
        refine V_getr (pc := 32) dX11_needed_32 fX11_58 zk_0 zr_0_6 ?_
        refine V_iloadn (pc := 35) dX11_needed_35 rfl ?_
        refine V_cv1 (pc := 36) dX11_needed_36 kX11_284 zk_112 (by decide) (Nat.le_of_ble_eq_true rfl) (s_neededArms hLn hp) rfl ?_
        rw [e0, if_pos (by omega), hν]
        refine V_iret hX dX11_needed_39 rfl ?_
        exact ⟨congrArg vi (by unfold cNeed; rw [if_neg (by omega), if_pos (by omega)]; rfl), hw⟩
    · refine V_ldc (pc := 16) (n := -1000000001) dX11_needed_16 nX11_160 (by decide) ?_
      refine V_iret hX dX11_needed_18 rfl ?_
      exact ⟨congrArg vi (by unfold cNeed; rw [if_neg (by omega), if_neg (by omega)]), fun k a b c => rfl⟩

theorem wk_way {μ : Mem} (hG : GI μ) {t r : Int} (ht : 0 ≤ t ∧ t < μ 32 0) : ∀ (n : Nat) (x been ms : Int), (0 ≤ x ∧ x < μ 32 0) → ∀ i, i < (wk μ t r n x been ms).2.2.length → (0 ≤ (x :: (wk μ t r n x been ms).2.2).getD i 0 ∧ (x :: (wk μ t r n x been ms).2.2).getD i 0 < μ 32 0) ∧ ¬ gArm μ 32 ((x :: (wk μ t r n x been ms).2.2).getD i 0) t = -1 := by
  intro n
  induction n with
  | zero => intro x been ms hx i hi; exact absurd hi (Nat.not_lt_zero _)
  | succ n ih =>
    intro x been ms hx i hi
    by_cases c : gArm μ 32 x t = -1 ∨ (¬ hb r x = 1 ∧ hb (μ (80 + 3) x.toNat) (gArm μ 32 x t) = 1)
    · have e : wk μ t r (n + 1) x been ms = (2, ms, []) := by unfold wk; rw [if_pos (rT_lost hG hx ht c)]
      rw [e] at hi; exact absurd hi (Nat.not_lt_zero _)
    · obtain ⟨_, g2, _, g4, g5⟩ := rT_go hG hx ht c
      have ga : ¬ gArm μ 32 x t = -1 := fun q => c (Or.inl q)
      have h1 : ¬ rT μ 80 x t r = -1 := by omega
      cases i with
      | zero => exact ⟨hx, ga⟩
      | succ i =>
        rw [List.getD_cons_succ]
        by_cases d : gBy μ 32 x (rT μ 80 x t r) = t
        · have e : wk μ t r (n + 1) x been ms = (1, ms + gLn μ 32 (rT μ 80 x t r), [gBy μ 32 x (rT μ 80 x t r)]) := by unfold wk; rw [if_neg h1, if_pos d]
          rw [e] at hi
          have : i + 1 < 1 := hi
          omega
        · by_cases f : In been (gBy μ 32 x (rT μ 80 x t r))
          · have e : wk μ t r (n + 1) x been ms = (3, ms + gLn μ 32 (rT μ 80 x t r), [gBy μ 32 x (rT μ 80 x t r)]) := by unfold wk; rw [if_neg h1, if_neg d, if_pos f]
            rw [e] at hi
            have : i + 1 < 1 := hi
            omega
          · have e : (wk μ t r (n + 1) x been ms).2.2 = gBy μ 32 x (rT μ 80 x t r) :: (wk μ t r n (gBy μ 32 x (rT μ 80 x t r)) (iorr been (ishl 1 (gBy μ 32 x (rT μ 80 x t r)))) (ms + gLn μ 32 (rT μ 80 x t r))).2.2 := by rw [wk, if_neg h1, if_neg d, if_neg f]
            rw [e] at hi ⊢
            exact ih _ _ _ g5 i (by simpa using hi)
theorem tWay_ok {μ : Mem} (H : REL μ) {g : Int} (hg : 0 ≤ g ∧ g < μ 32 2) (i : Nat) (hi : i < (wkF μ (gFr μ 32 g) (gTo μ 32 g) 0).2.2.length) : (0 ≤ tWay μ g i ∧ tWay μ g i < μ 32 0) ∧ ¬ gArm μ 32 (tWay μ g i) (gTo μ 32 g) = -1 := by
  have tv := H.trav hg
  unfold tWay
  unfold wkF at hi ⊢
  by_cases c : gFr μ 32 g = gTo μ 32 g
  · rw [if_pos c] at hi; exact absurd hi (Nat.not_lt_zero _)
  · rw [if_neg c] at hi ⊢
    exact wk_way H.gi tv.2.1 9 _ _ _ tv.1 i hi
theorem nd_cell {μ : Mem} (H : REL μ) {p g : Int} (hp : 0 ≤ p) (hc : (wkF μ (gFr μ 32 g) (gTo μ 32 g) 0).1 = 1) : ∀ (n k : Nat) (U : Row), (∀ i, k ≤ i → i < k + n → (0 ≤ tWay μ g i ∧ tWay μ g i < μ 32 0) ∧ ¬ gArm μ 32 (tWay μ g i) (gTo μ 32 g) = -1) → (0 ≤ U p.toNat ∧ U p.toNat ≤ 31) → mkU μ (gTo μ 32 g) (tWay μ g) n k U p.toNat = mnI μ p g n k (U p.toNat) ∧ (0 ≤ mnI μ p g n k (U p.toNat) ∧ mnI μ p g n k (U p.toNat) ≤ 31) := by
  intro n
  induction n with
  | zero => intro k U _ hU; exact ⟨rfl, hU⟩
  | succ n ih =>
    intro k U hw hU
    obtain ⟨w1, w2⟩ := hw k (Nat.le_refl k) (by omega)
    rw [mkU_s, mnI_s, if_pos ⟨w1, w2⟩]
    have a5 := H.1.A5 (tWay μ g k) (gTo μ 32 g)
    have a1 := H.1.A1 (tWay μ g k) (gTo μ 32 g)
    have a4 : gArm μ 32 (tWay μ g k) (gTo μ 32 g) < 5 := by
      by_cases z : 0 ≤ gTo μ 32 g ∧ gTo μ 32 g < μ 32 0
      · have := RM.arm H.gi w1 z
        have s5 := H.1.1.2.2.2.1 (tWay μ g k).toNat
        omega
      · unfold gArm; rw [if_neg (fun q => z q.2)]; decide
    have fa := (fell_a (U p.toNat).toNat (by omega) (gArm μ 32 (tWay μ g k) (gTo μ 32 g)).toNat (by omega)).2
    rw [show (((U p.toNat).toNat : Nat) : Int) = U p.toNat by omega, show (((gArm μ 32 (tWay μ g k) (gTo μ 32 g)).toNat : Nat) : Int) = gArm μ 32 (tWay μ g k) (gTo μ 32 g) by omega] at fa
    have e : up U (tWay μ g k).toNat (iorr (U (tWay μ g k).toNat) (ishl 1 (gArm μ 32 (tWay μ g k) (gTo μ 32 g)))) p.toNat = iorr (U p.toNat) (if (wkF μ (gFr μ 32 g) (gTo μ 32 g) 0).1 = 1 ∧ tWay μ g k = p then ishl 1 (gArm μ 32 (tWay μ g k) (gTo μ 32 g)) else 0) := by
      unfold up
      by_cases c : tWay μ g k = p
      · rw [if_pos (by rw [c]), if_pos ⟨hc, c⟩, c]
      · rw [if_neg (by omega), if_neg (fun z => c z.2), iorr_r0 (by omega)]
    rw [← e]
    refine ih (k + 1) _ (fun i h1 h2 => hw i (by omega) (by omega)) ?_
    rw [e]
    by_cases c : tWay μ g k = p
    · rw [if_pos ⟨hc, c⟩]; exact fa
    · rw [if_neg (fun z => c z.2), iorr_r0 (by omega)]; exact hU
theorem mnI_no {μ : Mem} {p g : Int} (hc : ¬ (wkF μ (gFr μ 32 g) (gTo μ 32 g) 0).1 = 1) : ∀ (n k : Nat) (acc : Int), inR acc → mnI μ p g n k acc = acc := by
  intro n
  induction n with
  | zero => intros; rfl
  | succ n ih => intro k acc h; rw [mnI_s, if_neg (fun z => hc z.1), iorr_r0 h]; exact ih _ _ h
theorem ndU_cell {μ : Mem} (H : REL μ) {p : Int} (hp : 0 ≤ p) : ∀ (n : Nat) (g : Int) (U : Row), 0 ≤ g → g + n = μ 32 2 → (0 ≤ U p.toNat ∧ U p.toNat ≤ 31) → ndU μ n g U p.toNat = mnO μ p n g (U p.toNat) ∧ (0 ≤ mnO μ p n g (U p.toNat) ∧ mnO μ p n g (U p.toNat) ≤ 31) := by
  intro n
  induction n with
  | zero => intro g U _ _ hU; exact ⟨rfl, hU⟩
  | succ n ih =>
    intro g U h0 h1 hU
    rw [ndU_s, mnO_s]
    by_cases c : (wkF μ (gFr μ 32 g) (gTo μ 32 g) 0).1 = 1
    · rw [if_pos c]
      have := nd_cell H hp c (wkF μ (gFr μ 32 g) (gTo μ 32 g) 0).2.2.length 0 U (fun i _ hi => tWay_ok H (by omega) i (by omega)) hU
      rw [← this.1]
      exact ih _ _ (by omega) (by omega) (by rw [this.1]; exact this.2)
    · rw [if_neg c, mnI_no c _ _ _ (by omega)]
      exact ih _ _ (by omega) (by omega) hU
theorem ndF_cell {μ : Mem} (H : REL μ) {p : Int} (hp : 0 ≤ p ∧ p < 9) : ndF μ p.toNat = mnA μ p ∧ (0 ≤ ndF μ p.toNat ∧ ndF μ p.toNat ≤ 31) := by
  have h2 := H.1.1.2.2.1
  have e0 : zr9 9 0 (μ 115) p.toNat = 0 := by rw [zr9_get, if_pos (by omega)]
  have := ndU_cell H hp.1 (μ 32 2).toNat 0 (zr9 9 0 (μ 115)) (by decide) (by omega) (by rw [e0]; decide)
  rw [e0] at this
  refine ⟨this.1, ?_⟩
  show 0 ≤ ndU μ (μ 32 2).toNat 0 (zr9 9 0 (μ 115)) p.toNat ∧ ndU μ (μ 32 2).toNat 0 (zr9 9 0 (μ 115)) p.toNat ≤ 31
  rw [this.1]; exact this.2
theorem ndS_eq {μ : Mem} (H : REL μ) : ∀ (n : Nat) (q acc : Int), 0 ≤ q → q + n ≤ 9 → ndS (ndF μ) n q acc = mnS μ n q acc := by
  intro n
  induction n with
  | zero => intros; rfl
  | succ n ih => intro q acc h0 h1; rw [ndS_s, mnS_s, (ndF_cell H (by omega)).1]; exact ih _ _ (by omega) (by omega)
theorem mnS_ag {μ ν : Mem} (a : Ag μ ν) : ∀ (n : Nat) (q acc : Int), mnS ν n q acc = mnS μ n q acc := by
  intro n
  induction n with
  | zero => intros; rfl
  | succ n ih => intro q acc; rw [mnS_s, mnS_s, ih, mnA_ag a]
theorem mNeed_ag {μ ν : Mem} (a : Ag μ ν) (p : Int) : mNeed ν p = mNeed μ p := by unfold mNeed; rw [mnS_ag a, mnA_ag a, a 32 (by decide)]
theorem need_eq {μ : Mem} (H : REL μ) (p : Int) : mNeed μ p = cNeed μ p := by
  have hP := H.1.1.1
  unfold mNeed cNeed
  rw [ndS_eq H _ _ _ (by decide) (by omega)]
  by_cases c : p = -1
  · rw [if_pos c, if_pos c]
  · rw [if_neg c, if_neg c]
    by_cases d : 0 ≤ p ∧ p < μ 32 0
    · rw [if_pos d, if_pos d, (ndF_cell H (by omega)).1]
    · rw [if_neg d, if_neg d]
theorem a_needed {μ : Mem} (H : REL μ) {p : Int} (hp : inR p) : Agr mX11_needed mX12_needed [vi p] μ := by
  refine ⟨cNeed μ p, _, t_needed2 H.ci (fun x hx => by have := (ndF_cell H (p := x) (by omega)).2; simpa using this) hp, ?_⟩
  rintro w m ⟨rfl, hm⟩
  have hs : SC μ m := hm.sc
  have G := REL_sc hs H
  refine ⟨rfl, _, r_needed G.gw hp, ?_⟩
  rintro w2 m2 ⟨rfl, hm2⟩
  exact ⟨congrArg vi (by rw [mNeed_ag hs.ag, need_eq H]), REL_sc hm2.sc G⟩

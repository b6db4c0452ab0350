def LBc (μ m : Mem) : Prop := (∀ k, k ≠ 32 → (k < 36 ∨ 45 < k) → m k = μ k) ∧ (m 32 0 = μ 48 0 ∧ m 32 1 = μ 48 1 ∧ m 32 2 = μ 48 2) ∧ (∀ i, m (32 + 4) i = if i < 14 then μ (48 + 4) i else μ (32 + 4) i) ∧ (∀ i, m (32 + 5) i = if i < 14 then μ (48 + 5) i else μ (32 + 5) i) ∧ (∀ i, m (32 + 6) i = if i < 14 then μ (48 + 6) i else μ (32 + 6) i) ∧ (∀ i, m (32 + 7) i = if i < 20 then μ (48 + 7) i else μ (32 + 7) i) ∧ (∀ i, m (32 + 8) i = if i < 20 then μ (48 + 8) i else μ (32 + 8) i) ∧ (∀ i, m (32 + 9) i = if i < 20 then μ (48 + 9) i else μ (32 + 9) i) ∧ (∀ i, m (32 + 10) i = if i < 9 then μ (48 + 10) i else μ (32 + 10) i) ∧ (∀ i, m (32 + 11) i = if i < 45 then μ (48 + 11) i else μ (32 + 11) i) ∧ (∀ i, m (32 + 12) i = if i < 81 then μ (48 + 12) i else μ (32 + 12) i) ∧ (∀ i, m (32 + 13) i = if i < 81 then μ (48 + 13) i else μ (32 + 13) i)
theorem s_lBec {μ : Mem} : SP mX4_become [vr 32, vr 48] μ (fun w m => w = un ∧ LBc μ m) := s_lBecome
theorem LOK_lb {μ m : Mem} (h1 : LOK μ 32) (h2 : LOK μ 48) (h : LBc μ m) : LOK m 32 := by
  obtain ⟨a1, ⟨a2, a3, a4⟩, b4, b5, b6, b7, b8, b9, b10, b11, b12, b13⟩ := h
  refine ⟨by rw [a2]; exact h2.1, by rw [a3]; exact h2.2.1, by rw [a4]; exact h2.2.2.1, fun p => ?_, fun k j k4 k13 => ?_⟩
  · rw [b10]
    split
    · exact h2.2.2.2.1 p
    · exact h1.2.2.2.1 p
  · have g1 := h1.2.2.2.2 k j k4 k13
    have g2 := h2.2.2.2.2 k j k4 k13
    have hk : k = 4 ∨ k = 5 ∨ k = 6 ∨ k = 7 ∨ k = 8 ∨ k = 9 ∨ k = 10 ∨ k = 11 ∨ k = 12 ∨ k = 13 := by omega
    rcases hk with rfl | rfl | rfl | rfl | rfl | rfl | rfl | rfl | rfl | rfl
    · rw [b4]; split; exact g2; exact g1
    · rw [b5]; split; exact g2; exact g1
    · rw [b6]; split; exact g2; exact g1
    · rw [b7]; split; exact g2; exact g1
    · rw [b8]; split; exact g2; exact g1
    · rw [b9]; split; exact g2; exact g1
    · rw [b10]; split; exact g2; exact g1
    · rw [b11]; split; exact g2; exact g1
    · rw [b12]; split; exact g2; exact g1
    · rw [b13]; split; exact g2; exact g1
/-- cells outside of draft and reader stay while a text is read -/
theorem rCl_c {μ : Mem} {c : Nat} (h : c < 48 ∨ 59 < c) (h64 : c ≠ 64) : rCl μ c = μ c := by
  have hW : wM μ c = μ c := mu_ne h64
  unfold rCl
  split
  · unfold rPl
    split
    · rw [blm_c h64, hW]
    · split
      · rw [mu_ne (by omega), en_c _ h64, hW]
      · rw [en_c _ h64, hW]
  · split
    · unfold rRd
      split
      · rw [blm_c h64, hW]
      · unfold rdT
        split
        · rw [aRoad_c (by omega), en_c _ h64, r4_c h64, hW]
        · rw [en_c _ h64, r4_c h64, hW]
    · split
      · unfold rTv
        split
        · rw [blm_c h64, hW]
        · unfold rdG
          split
          · rw [aTrav_c (by omega), en_c _ h64, r5_c h64, hW]
          · rw [en_c _ h64, r5_c h64, hW]
      · rw [blm_c h64, hW]
theorem rdL_c {c : Nat} (h : c < 48 ∨ 59 < c) (h64 : c ≠ 64) : ∀ (n : Nat) (μ : Mem), rdL n μ c = μ c := by
  intro n
  induction n with
  | zero => intro μ; rfl
  | succ n ih =>
    intro μ
    rw [rdL_s]
    split
    · rw [ih, skM_c h64, rCl_c h h64]
    · rfl
theorem ra1_c {μ : Mem} {c : Nat} (h : c < 48 ∨ 59 < c) (h64 : c ≠ 64) : ra1 μ c = μ c := by
  unfold ra1 ra0
  rw [skM_c h64, clr_c (by omega) (by omega), mu_ne h64, mu_ne h64, mu_ne h64]
theorem rAll_c {μ : Mem} {c : Nat} (h : c < 48 ∨ 61 < c) (h64 : c ≠ 64) : rAll μ c = μ c := by
  have e : ra2 μ c = μ c := (rdL_c (by omega) h64 _ _).trans (ra1_c (by omega) h64)
  unfold rAll
  split
  · unfold svy
    rw [mw_ne (by omega), mw_ne (by omega), e]
  · exact e
theorem LOK_rAll {μ : Mem} (hT : TOK μ) (hB : B8 μ) (hL : LOK μ 48) : LOK (rAll μ) 48 := by
  obtain ⟨h1, h2⟩ := RJ_rdL 400 (ra1 μ) (RI_sk (RI_ra1 hT hB hL)) DL_ra1
  unfold rAll
  split
  · exact LOK_svy (RI_l48 h1) (DL_gLn h2)
  · exact RI_l48 h1
theorem rAll_64 {μ : Mem} : rAll μ 64 = ra2 μ 64 := by
  unfold rAll
  split
  · unfold svy; rw [mw_ne (by decide), mw_ne (by decide)]
  · rfl
theorem rAll_k {μ : Mem} (hT : TOK μ) (hB : B8 μ) (hL : LOK μ 48) : 0 ≤ rAll μ 64 3 ∧ rAll μ 64 3 ≤ 4 := by
  obtain ⟨h1, h2⟩ := RJ_rdL 400 (ra1 μ) (RI_sk (RI_ra1 hT hB hL)) DL_ra1
  rw [rAll_64]
  exact h1.2.2.2.1
def cl4 (m : Mem) : Mem := mu (mu (mu (mu m 144 4 0) 160 4 0) 192 2 0) 224 2 0
def lA (μ : Mem) : Mem := mu (rAll μ) 16 1 0
theorem lA_c {μ : Mem} {c : Nat} (h : c < 48 ∨ 61 < c) (h64 : c ≠ 64) (h16 : c ≠ 16) : lA μ c = μ c := by
  unfold lA; rw [mu_ne h16, rAll_c h h64]
theorem LOK_16 {μ : Mem} {o : Nat} (ho : LandAt o) {j : Nat} {v : Int} (h : LOK μ o) : LOK (mu μ 16 j v) o := by
  obtain ⟨h1, h2, h3, h4, h5⟩ := h
  have e : ∀ k, mu μ 16 j v (o + k) = μ (o + k) := fun k => mu_ne (by rcases ho with rfl | rfl <;> omega)
  have e0 : mu μ 16 j v o = μ o := e 0
  exact ⟨by rw [e0]; exact h1, by rw [e0]; exact h2, by rw [e0]; exact h3, fun p => by rw [e]; exact h4 p, fun k i a b => by rw [e]; exact h5 k i a b⟩
theorem LOK_lA32 {μ : Mem} (hL : LOK μ 32) : LOK (lA μ) 32 := by
  have e : ∀ k, k ≤ 13 → lA μ (32 + k) = μ (32 + k) := fun k hk => lA_c (by omega) (by omega) (by omega)
  have e0 : lA μ 32 = μ 32 := e 0 (by decide)
  obtain ⟨h1, h2, h3, h4, h5⟩ := hL
  exact ⟨by rw [e0]; exact h1, by rw [e0]; exact h2, by rw [e0]; exact h3, fun p => by rw [e 10 (by decide)]; exact h4 p, fun k i a b => by rw [e k b]; exact h5 k i a b⟩
theorem LOK_lA48 {μ : Mem} (hT : TOK μ) (hB : B8 μ) (hL : LOK μ 48) : LOK (lA μ) 48 := LOK_16 LandAt_48 (LOK_rAll hT hB hL)
theorem s_txc {μ : Mem} : SP mX10_clear [vr 16] (rAll μ) (fun w m => w = un ∧ m = lA μ) := s_textClear
/-- what land answers, and the memory behind it -/
def cLand (μ : Mem) (w : AV) (m : Mem) : Prop := (¬ lA μ 64 3 = 0 → w = vi (-10 - lA μ 64 3) ∧ m = lA μ) ∧ (lA μ 64 3 = 0 → ∃ m1, LBc (lA μ) m1 ∧ LOK m1 32 ∧ w = vi (cl4 (sAll 80 (m1 32 0).toNat 0 m1) 32 0) ∧ m = cl4 (sAll 80 (m1 32 0).toNat 0 m1))

set_option maxRecDepth 20000 in
theorem t_landC {μ : Mem} (hT : TOK μ) (hB : B8 μ) (hL : LOK μ 32) (hL2 : LOK μ 48) : SP mX11_land [vr 0] μ (fun w m => cLand μ w m) := by
  refine SP_intro (ls := [vr 0]) (by decide +kernel) rfl rfl (Nat.le_of_ble_eq_true rfl) rfl (fun X hX => ?_)
  have hk := rAll_k hT hB hL2
  have h32 := LOK_lA32 hL
  have h48 := LOK_lA48 hT hB hL2
  have e3 : lA μ 64 3 = rAll μ 64 3 := by unfold lA; rw [mu_c (by decide)]
  refine V_aloadn (pc := 0) dX11_land_0 rfl ?_
  refine V_getr (pc := 1) dX11_land_1 fX11_31 zk_0 zr_0_3 ?_
  refine V_cu0 (pc := 4) dX11_land_4 kX11_114 zk_64 (by decide) (Nat.le_of_ble_eq_true rfl) (s_readAll hT hB hL2) ?_
  refine V_aloadn (pc := 7) dX11_land_7 rfl ?_
  refine V_getr (pc := 8) dX11_land_8 fX11_10 zk_0 zr_0_0 ?_
  refine V_cu0 (pc := 11) dX11_land_11 kX11_117 zk_16 (by decide) (Nat.le_of_ble_eq_true rfl) (s_txc) ?_
  refine V_aloadn (pc := 14) dX11_land_14 rfl ?_
  refine V_getr (pc := 15) dX11_land_15 fX11_31 zk_0 zr_0_3 ?_
  refine V_cv0 (pc := 18) dX11_land_18 kX11_120 zk_64 (by decide) (Nat.le_of_ble_eq_true rfl) (s_faultKind) rfl ?_
  refine V_if_eq (pc := 21) (tgt := 35) dX11_land_21 (by decide) (by omega) (fun h21 => ?_) (fun h21 => ?_)
  · refine V_aloadn (pc := 35) dX11_land_35 rfl ?_
    refine V_getr (pc := 36) dX11_land_36 fX11_19 zk_0 zr_0_1 ?_
    refine V_aloadn (pc := 39) dX11_land_39 rfl ?_
    refine V_getr (pc := 40) dX11_land_40 fX11_23 zk_0 zr_0_2 ?_
    refine V_cq1 (pc := 43) dX11_land_43 kX11_123 zk_32 (by decide) (Nat.le_of_ble_eq_true rfl) (s_lBec) ?_
    intro v m1 hv
    obtain ⟨rfl, hB1⟩ := hv
    have hL1 := LOK_lb h32 h48 hB1
    refine V_aloadn (pc := 46) dX11_land_46 rfl ?_
    refine V_getr (pc := 47) dX11_land_47 fX11_40 zk_0 zr_0_4 ?_
    refine V_cu0 (pc := 50) dX11_land_50 kX11_126 zk_80 (by decide) (Nat.le_of_ble_eq_true rfl) (s_setAllRight (Or.inl rfl) hL1) ?_
    refine V_aloadn (pc := 53) dX11_land_53 rfl ?_
    refine V_getr (pc := 54) dX11_land_54 fX11_72 zk_0 zr_0_8 ?_
    refine V_cu0 (pc := 57) dX11_land_57 kX11_129 zk_144 (by decide) (Nat.le_of_ble_eq_true rfl) (s_sightClear) ?_
    refine V_aloadn (pc := 60) dX11_land_60 rfl ?_
    refine V_getr (pc := 61) dX11_land_61 fX11_79 zk_0 zr_0_9 ?_
    refine V_cu0 (pc := 64) dX11_land_64 kX11_130 zk_160 (by decide) (Nat.le_of_ble_eq_true rfl) (s_bookClear) ?_
    refine V_aloadn (pc := 67) dX11_land_67 rfl ?_
    refine V_getr (pc := 68) dX11_land_68 fX11_93 zk_0 zr_0_11 ?_
    refine V_cu0 (pc := 71) dX11_land_71 kX11_131 zk_192 (by decide) (Nat.le_of_ble_eq_true rfl) (s_drop1) ?_
    refine V_aloadn (pc := 74) dX11_land_74 rfl ?_
    refine V_getr (pc := 75) dX11_land_75 fX11_97 zk_0 zr_0_12 ?_
    refine V_cu0 (pc := 78) dX11_land_78 kX11_131 zk_224 (by decide) (Nat.le_of_ble_eq_true rfl) (s_drop2) ?_
    refine V_aloadn (pc := 81) dX11_land_81 rfl ?_
    refine V_getr (pc := 82) dX11_land_82 fX11_19 zk_0 zr_0_1 ?_
    refine V_cv0 (pc := 85) dX11_land_85 kX11_134 zk_32 (by decide) (Nat.le_of_ble_eq_true rfl) (s_places LandAt_32) rfl ?_
    refine V_iret hX dX11_land_88 rfl ?_
    exact ⟨fun q => by omega, fun _ => ⟨m1, hB1, hL1, rfl, rfl⟩⟩
  · refine V_bipush (pc := 24) dX11_land_24 (by decide +kernel) ?_
    refine V_aloadn (pc := 26) dX11_land_26 rfl ?_
    refine V_getr (pc := 27) dX11_land_27 fX11_31 zk_0 zr_0_3 ?_
    refine V_cv0 (pc := 30) dX11_land_30 kX11_120 zk_64 (by decide) (Nat.le_of_ble_eq_true rfl) (s_faultKind) rfl ?_
    refine V_isub (pc := 33) dX11_land_33 ?_
    refine V_iret hX dX11_land_34 rfl ?_
    exact ⟨fun _ => ⟨rfl, rfl⟩, fun q => by omega⟩

def clr0 (μ : Mem) (o : Nat) : Mem := mu (mu (mu μ o 0 0) o 1 0) o 2 0
def clr (μ : Mem) (o : Nat) : Mem := mw (clr0 μ o) (o + 10) (zr9 9 0 (μ (o + 10)))

set_option maxRecDepth 20000 in
theorem l_clear {ν : Mem} {o : Nat} (ho : LandAt o) {R : Row} {X : ZX} (hX : isM X (fun w m => w = un ∧ m = mw ν (o + 10) R)) : ∀ (n : Nat) (p : Int) (U : Row), (p + n = 9) → (0 ≤ p) → (zr9 n p.toNat U = R) → V X mX4_clear 17 [vr o, vi p] [] (mw ν (o + 10) U) := by
  intro n
  induction n with
  | zero =>
    intro p U h1 h2 hR
    refine V_iloadn (pc := 17) dX4_clear_17 rfl ?_
    refine V_bipush (pc := 18) dX4_clear_18 (by decide +kernel) ?_
    refine V_icmp_ge (pc := 20) (tgt := 36) dX4_clear_20 (by decide) (by omega) (by decide) (fun h20 => ?_) (fun h20 => ?_)
    · refine V_vret (x := 0) hX dX4_clear_36 rfl ?_
      exact ⟨rfl, by rw [← hR]; rfl⟩
    · exfalso; omega
  | succ n ih =>
    intro p U h1 h2 hR
    refine V_iloadn (pc := 17) dX4_clear_17 rfl ?_
    refine V_bipush (pc := 18) dX4_clear_18 (by decide +kernel) ?_
    refine V_icmp_ge (pc := 20) (tgt := 36) dX4_clear_20 (by decide) (by omega) (by decide) (fun h20 => ?_) (fun h20 => ?_)
    · exfalso; omega
    · refine V_aloadn (pc := 23) dX4_clear_23 rfl ?_
      refine V_getr (pc := 24) dX4_clear_24 fX4_30 (LandAt_k ho) (LandAt_z9 ho) ?_
      refine V_iloadn (pc := 27) dX4_clear_27 rfl ?_
      refine V_iconst (pc := 28) dX4_clear_28 ?_
      refine V_iast (pc := 29) dX4_clear_29 (LandAt_a9 ho) (by omega) (by omega) (by decide) ?_
      rw [mu_mw]
      refine V_iinc_1 (pc := 30) dX4_clear_30 (by decide) rfl ?_
      refine V_goto (pc := 33) (tgt := 17) dX4_clear_33 (by decide) ?_
      exact ih _ _ (by omega) (by omega) (by rw [← hR, zr9_s, show (p + 1).toNat = p.toNat + 1 by omega])

set_option maxRecDepth 20000 in
theorem s_clear {μ : Mem} {o : Nat} (ho : LandAt o) : SP mX4_clear [vr o] μ (fun w m => w = un ∧ m = clr μ o) := by
  refine SP_intro (ls := [vr o, un]) (by decide +kernel) rfl rfl (Nat.le_of_ble_eq_true rfl) rfl (fun X hX => ?_)
  refine V_aloadn (pc := 0) dX4_clear_0 rfl ?_
  refine V_iconst (pc := 1) dX4_clear_1 ?_
  refine V_puti (pc := 2) dX4_clear_2 fX4_42 (LandAt_k ho) ?_
  refine V_aloadn (pc := 5) dX4_clear_5 rfl ?_
  refine V_iconst (pc := 6) dX4_clear_6 ?_
  refine V_puti (pc := 7) dX4_clear_7 fX4_46 (LandAt_k ho) ?_
  refine V_aloadn (pc := 10) dX4_clear_10 rfl ?_
  refine V_iconst (pc := 11) dX4_clear_11 ?_
  refine V_puti (pc := 12) dX4_clear_12 fX4_49 (LandAt_k ho) ?_
  refine V_iconst (pc := 15) dX4_clear_15 ?_
  refine V_istore_1 (pc := 16) dX4_clear_16 (by decide) rfl ?_
  have e : mu (mu (mu μ o 0 0) o 1 0) o 2 0 = mw (clr0 μ o) (o + 10) (μ (o + 10)) := by
    rw [show μ (o + 10) = clr0 μ o (o + 10) from by unfold clr0; rw [mu_ne (by omega), mu_ne (by omega), mu_ne (by omega)], mw_id]; rfl
  rw [e]
  exact l_clear ho hX 9 0 (μ (o + 10)) (by omega) (by omega) rfl

theorem LOK_mu {μ : Mem} {o k j : Nat} {v : Int} (h : LOK μ o) (h4 : 4 ≤ k) (h13 : k ≤ 13) (h10 : k ≠ 10) (hv : inR v) : LOK (mu μ (o + k) j v) o := by
  rw [mu_eq]
  refine LOK_mw h h4 h13 h10 (fun x => ?_)
  split
  · exact hv
  · exact h.rg k x h4 h13
theorem LOK_mu10 {μ : Mem} {o j : Nat} {v : Int} (h : LOK μ o) (hv : 0 ≤ v ∧ v ≤ 5) : LOK (mu μ (o + 10) j v) o := by
  obtain ⟨a, b, c, d, e⟩ := h
  have h0 : mu μ (o + 10) j v o = μ o := mu_ne (by omega)
  refine ⟨by rw [h0]; exact a, by rw [h0]; exact b, by rw [h0]; exact c, fun p => ?_, fun k2 i h1 h2 => ?_⟩
  · by_cases hp : p = j
    · subst hp; rw [mu_h]; exact hv
    · rw [mu_j hp]; exact d p
  · by_cases hk : k2 = 10
    · subst hk
      by_cases hp : i = j
      · subst hp; rw [mu_h]; omega
      · rw [mu_j hp]; exact e 10 i h1 h2
    · rw [mu_c (by omega)]; exact e k2 i h1 h2
theorem LOK_aSide {μ : Mem} {o : Nat} {p r : Int} (h : LOK μ o) (hs : μ (o + 10) p.toNat < 5) (hr : inR r) : LOK (aSide μ o p r) o := by
  have := h.2.2.2.1 p.toNat
  exact LOK_mu10 (LOK_mu h (by decide) (by decide) (by decide) hr) (by omega)
theorem aSide_o {μ : Mem} {o : Nat} {p r : Int} {j : Nat} : aSide μ o p r o j = μ o j := by unfold aSide; rw [mu_c (by omega), mu_c (by omega)]
theorem aSide_s {μ : Mem} {o : Nat} {p r : Int} {j : Nat} (h : j ≠ p.toNat) : aSide μ o p r (o + 10) j = μ (o + 10) j := by unfold aSide; rw [mu_j h, mu_c (by omega)]

set_option maxRecDepth 20000 in
theorem s_addRoad {μ : Mem} {o : Nat} (ho : LandAt o) (hL : LOK μ o) {a b k : Int} (hR : μ o 1 < 14) (ha : 0 ≤ a ∧ a < μ o 0) (hb : 0 ≤ b ∧ b < μ o 0) (hab : ¬ a = b) (hk : inR k) (hsa : μ (o + 10) a.toNat < 5) (hsb : μ (o + 10) b.toNat < 5) : SP mX4_addRoad [vr o, vi a, vi b, vi k] μ (fun w m => w = un ∧ m = aRoad μ o a b k) := by
  refine SP_intro (ls := [vr o, vi a, vi b, vi k]) (by decide +kernel) rfl rfl (Nat.le_of_ble_eq_true rfl) rfl (fun X hX => ?_)
  obtain ⟨hL0, hL1, hL2, hL3, hL4⟩ := id hL
  have hL1m : LOK (mu (mu (mu μ (o + 4) (μ o 1).toNat a) (o + 5) (μ o 1).toNat b) (o + 6) (μ o 1).toNat k) o := LOK_mu (LOK_mu (LOK_mu hL (by decide) (by decide) (by decide) (by omega)) (by decide) (by decide) (by decide) (by omega)) (by decide) (by decide) (by decide) hk
  have em : ∀ j, mu (mu (mu μ (o + 4) (μ o 1).toNat a) (o + 5) (μ o 1).toNat b) (o + 6) (μ o 1).toNat k o j = μ o j := fun j => by rw [mu_c (by omega), mu_c (by omega), mu_c (by omega)]
  have hL2m := LOK_aSide (p := a) (r := μ o 1) hL1m (by rw [mu_c (by omega), mu_c (by omega), mu_c (by omega)]; omega) (by omega)
  refine V_aloadn (pc := 0) dX4_addRoad_0 rfl ?_
  refine V_geti (r := 0) (pc := 1) dX4_addRoad_1 fX4_46 (LandAt_k ho) ?_
  refine V_if_lt (pc := 4) (tgt := 74) dX4_addRoad_4 (by decide) (by omega) (fun h4 => ?_) (fun h4 => ?_)
  · exfalso; omega
  · refine V_aloadn (pc := 7) dX4_addRoad_7 rfl ?_
    refine V_geti (r := 0) (pc := 8) dX4_addRoad_8 fX4_46 (LandAt_k ho) ?_
    refine V_bipush (pc := 11) dX4_addRoad_11 (by decide +kernel) ?_
    refine V_icmp_ge (pc := 13) (tgt := 74) dX4_addRoad_13 (by decide) (by omega) (by decide) (fun h13 => ?_) (fun h13 => ?_)
    · exfalso; omega
    · refine V_aloadn (pc := 16) dX4_addRoad_16 rfl ?_
      refine V_getr (pc := 17) dX4_addRoad_17 fX4_9 (LandAt_k ho) (LandAt_z3 ho) ?_
      refine V_aloadn (pc := 20) dX4_addRoad_20 rfl ?_
      refine V_geti (r := 0) (pc := 21) dX4_addRoad_21 fX4_46 (LandAt_k ho) ?_
      refine V_iloadn (pc := 24) dX4_addRoad_24 rfl ?_
      refine V_iast (pc := 25) dX4_addRoad_25 (LandAt_a3 ho) (by omega) (by omega) (by decide) ?_
      refine V_aloadn (pc := 26) dX4_addRoad_26 rfl ?_
      refine V_getr (pc := 27) dX4_addRoad_27 fX4_15 (LandAt_k ho) (LandAt_z4 ho) ?_
      refine V_aloadn (pc := 30) dX4_addRoad_30 rfl ?_
      refine V_geti (r := 0) (pc := 31) dX4_addRoad_31 fX4_46 (LandAt_k ho) ?_
      rw [mu_c (by omega : (o : Nat) ≠ (o + 4))]
      refine V_iloadn (pc := 34) dX4_addRoad_34 rfl ?_
      refine V_iast (pc := 35) dX4_addRoad_35 (LandAt_a4 ho) (by omega) (by omega) (by decide) ?_
      refine V_aloadn (pc := 36) dX4_addRoad_36 rfl ?_
      refine V_getr (pc := 37) dX4_addRoad_37 fX4_18 (LandAt_k ho) (LandAt_z5 ho) ?_
      refine V_aloadn (pc := 40) dX4_addRoad_40 rfl ?_
      refine V_geti (r := 0) (pc := 41) dX4_addRoad_41 fX4_46 (LandAt_k ho) ?_
      rw [mu_c (by omega : (o : Nat) ≠ (o + 5))]
      rw [mu_c (by omega : (o : Nat) ≠ (o + 4))]
      refine V_iloadn (pc := 44) dX4_addRoad_44 rfl ?_
      refine V_iast (pc := 45) dX4_addRoad_45 (LandAt_a5 ho) (by omega) (by omega) (by decide) ?_
      refine V_aloadn (pc := 46) dX4_addRoad_46 rfl ?_
      refine V_iloadn (pc := 47) dX4_addRoad_47 rfl ?_
      refine V_aloadn (pc := 48) dX4_addRoad_48 rfl ?_
      refine V_geti (r := 0) (pc := 49) dX4_addRoad_49 fX4_46 (LandAt_k ho) ?_
      rw [mu_c (by omega : (o : Nat) ≠ (o + 6))]
      rw [mu_c (by omega : (o : Nat) ≠ (o + 5))]
      rw [mu_c (by omega : (o : Nat) ≠ (o + 4))]
      refine V_cu2 (pc := 52) dX4_addRoad_52 kX4_95 (LandAt_k ho) (by decide) (Nat.le_of_ble_eq_true rfl) (s_addSide ho hL1m (by rw [em 0]; omega) (by rw [mu_c (by omega), mu_c (by omega), mu_c (by omega)]; omega)) ?_
      refine V_aloadn (pc := 55) dX4_addRoad_55 rfl ?_
      refine V_iloadn (pc := 56) dX4_addRoad_56 rfl ?_
      refine V_aloadn (pc := 57) dX4_addRoad_57 rfl ?_
      refine V_geti (r := 0) (pc := 58) dX4_addRoad_58 fX4_46 (LandAt_k ho) ?_
      rw [aSide_o, em 1]
      refine V_cu2 (pc := 61) dX4_addRoad_61 kX4_95 (LandAt_k ho) (by decide) (Nat.le_of_ble_eq_true rfl) (s_addSide ho hL2m (by rw [aSide_o, em 0]; omega) (by rw [aSide_s (by omega), mu_c (by omega), mu_c (by omega), mu_c (by omega)]; omega)) ?_
      refine V_aloadn (pc := 64) dX4_addRoad_64 rfl ?_
      refine V_dup_r (pc := 65) dX4_addRoad_65 ?_
      refine V_geti (r := 0) (pc := 66) dX4_addRoad_66 fX4_46 (LandAt_k ho) ?_
      rw [aSide_o, aSide_o, em 1]
      refine V_iconst (pc := 69) dX4_addRoad_69 ?_
      refine V_iadd (pc := 70) dX4_addRoad_70 ?_
      refine V_puti (pc := 71) dX4_addRoad_71 fX4_46 (LandAt_k ho) ?_
      refine V_vret (x := 0) hX dX4_addRoad_74 rfl ?_
      exact ⟨rfl, rfl⟩

set_option maxRecDepth 20000 in
theorem s_lBecome {μ : Mem} : SP mX4_become [vr 32, vr 48] μ (fun w m => w = un ∧ (∀ k, k ≠ 32 → (k < 36 ∨ 45 < k) → m k = μ k) ∧ (m 32 0 = μ 48 0 ∧ m 32 1 = μ 48 1 ∧ m 32 2 = μ 48 2) ∧ (∀ i, m (32 + 4) i = if i < 14 then μ (48 + 4) i else μ (32 + 4) i) ∧ (∀ i, m (32 + 5) i = if i < 14 then μ (48 + 5) i else μ (32 + 5) i) ∧ (∀ i, m (32 + 6) i = if i < 14 then μ (48 + 6) i else μ (32 + 6) i) ∧ (∀ i, m (32 + 7) i = if i < 20 then μ (48 + 7) i else μ (32 + 7) i) ∧ (∀ i, m (32 + 8) i = if i < 20 then μ (48 + 8) i else μ (32 + 8) i) ∧ (∀ i, m (32 + 9) i = if i < 20 then μ (48 + 9) i else μ (32 + 9) i) ∧ (∀ i, m (32 + 10) i = if i < 9 then μ (48 + 10) i else μ (32 + 10) i) ∧ (∀ i, m (32 + 11) i = if i < 45 then μ (48 + 11) i else μ (32 + 11) i) ∧ (∀ i, m (32 + 12) i = if i < 81 then μ (48 + 12) i else μ (32 + 12) i) ∧ (∀ i, m (32 + 13) i = if i < 81 then μ (48 + 13) i else μ (32 + 13) i)) := by
  refine SP_intro (ls := [vr 32, vr 48]) (by decide +kernel) rfl rfl (Nat.le_of_ble_eq_true rfl) rfl (fun X hX => ?_)
  refine V_aloadn (pc := 0) dX4_become_0 rfl ?_
  refine V_aloadn (pc := 1) dX4_become_1 rfl ?_
  refine V_geti (r := 0) (pc := 2) dX4_become_2 fX4_42 zk_48 ?_
  refine V_puti (pc := 5) dX4_become_5 fX4_42 zk_32 ?_
  refine V_aloadn (pc := 8) dX4_become_8 rfl ?_
  refine V_aloadn (pc := 9) dX4_become_9 rfl ?_
  refine V_geti (r := 0) (pc := 10) dX4_become_10 fX4_46 zk_48 ?_
  rw [mu_c (by decide : (48 : Nat) ≠ 32)]
  refine V_puti (pc := 13) dX4_become_13 fX4_46 zk_32 ?_
  refine V_aloadn (pc := 16) dX4_become_16 rfl ?_
  refine V_aloadn (pc := 17) dX4_become_17 rfl ?_
  refine V_geti (r := 0) (pc := 18) dX4_become_18 fX4_49 zk_48 ?_
  rw [mu_c (by decide : (48 : Nat) ≠ 32)]
  rw [mu_c (by decide : (48 : Nat) ≠ 32)]
  refine V_puti (pc := 21) dX4_become_21 fX4_49 zk_32 ?_
  refine V_aloadn (pc := 24) dX4_become_24 rfl ?_
  refine V_getr (pc := 25) dX4_become_25 fX4_9 zk_48 zr_48_3 ?_
  refine V_iconst (pc := 28) dX4_become_28 ?_
  refine V_aloadn (pc := 29) dX4_become_29 rfl ?_
  refine V_getr (pc := 30) dX4_become_30 fX4_9 zk_32 zr_32_3 ?_
  refine V_iconst (pc := 33) dX4_become_33 ?_
  refine V_bipush (pc := 34) dX4_become_34 (by decide +kernel) ?_
  refine V_copy (pc := 36) dX4_become_36 kX4_52 zk_52 zk_36 rfl (by decide) (by decide) (by decide) (Nat.le_of_ble_eq_true rfl) ?_
  refine V_aloadn (pc := 39) dX4_become_39 rfl ?_
  refine V_getr (pc := 40) dX4_become_40 fX4_15 zk_48 zr_48_4 ?_
  refine V_iconst (pc := 43) dX4_become_43 ?_
  refine V_aloadn (pc := 44) dX4_become_44 rfl ?_
  refine V_getr (pc := 45) dX4_become_45 fX4_15 zk_32 zr_32_4 ?_
  refine V_iconst (pc := 48) dX4_become_48 ?_
  refine V_bipush (pc := 49) dX4_become_49 (by decide +kernel) ?_
  refine V_copy (pc := 51) dX4_become_51 kX4_52 zk_53 zk_37 rfl (by decide) (by decide) (by decide) (Nat.le_of_ble_eq_true rfl) ?_
  refine V_aloadn (pc := 54) dX4_become_54 rfl ?_
  refine V_getr (pc := 55) dX4_become_55 fX4_18 zk_48 zr_48_5 ?_
  refine V_iconst (pc := 58) dX4_become_58 ?_
  refine V_aloadn (pc := 59) dX4_become_59 rfl ?_
  refine V_getr (pc := 60) dX4_become_60 fX4_18 zk_32 zr_32_5 ?_
  refine V_iconst (pc := 63) dX4_become_63 ?_
  refine V_bipush (pc := 64) dX4_become_64 (by decide +kernel) ?_
  refine V_copy (pc := 66) dX4_become_66 kX4_52 zk_54 zk_38 rfl (by decide) (by decide) (by decide) (Nat.le_of_ble_eq_true rfl) ?_
  refine V_aloadn (pc := 69) dX4_become_69 rfl ?_
  refine V_getr (pc := 70) dX4_become_70 fX4_21 zk_48 zr_48_6 ?_
  refine V_iconst (pc := 73) dX4_become_73 ?_
  refine V_aloadn (pc := 74) dX4_become_74 rfl ?_
  refine V_getr (pc := 75) dX4_become_75 fX4_21 zk_32 zr_32_6 ?_
  refine V_iconst (pc := 78) dX4_become_78 ?_
  refine V_bipush (pc := 79) dX4_become_79 (by decide +kernel) ?_
  refine V_copy (pc := 81) dX4_become_81 kX4_52 zk_55 zk_39 rfl (by decide) (by decide) (by decide) (Nat.le_of_ble_eq_true rfl) ?_
  refine V_aloadn (pc := 84) dX4_become_84 rfl ?_
  refine V_getr (pc := 85) dX4_become_85 fX4_24 zk_48 zr_48_7 ?_
  refine V_iconst (pc := 88) dX4_become_88 ?_
  refine V_aloadn (pc := 89) dX4_become_89 rfl ?_
  refine V_getr (pc := 90) dX4_become_90 fX4_24 zk_32 zr_32_7 ?_
  refine V_iconst (pc := 93) dX4_become_93 ?_
  refine V_bipush (pc := 94) dX4_become_94 (by decide +kernel) ?_
  refine V_copy (pc := 96) dX4_become_96 kX4_52 zk_56 zk_40 rfl (by decide) (by decide) (by decide) (Nat.le_of_ble_eq_true rfl) ?_
  refine V_aloadn (pc := 99) dX4_become_99 rfl ?_
  refine V_getr (pc := 100) dX4_become_100 fX4_27 zk_48 zr_48_8 ?_
  refine V_iconst (pc := 103) dX4_become_103 ?_
  refine V_aloadn (pc := 104) dX4_become_104 rfl ?_
  refine V_getr (pc := 105) dX4_become_105 fX4_27 zk_32 zr_32_8 ?_
  refine V_iconst (pc := 108) dX4_become_108 ?_
  refine V_bipush (pc := 109) dX4_become_109 (by decide +kernel) ?_
  refine V_copy (pc := 111) dX4_become_111 kX4_52 zk_57 zk_41 rfl (by decide) (by decide) (by decide) (Nat.le_of_ble_eq_true rfl) ?_
  refine V_aloadn (pc := 114) dX4_become_114 rfl ?_
  refine V_getr (pc := 115) dX4_become_115 fX4_30 zk_48 zr_48_9 ?_
  refine V_iconst (pc := 118) dX4_become_118 ?_
  refine V_aloadn (pc := 119) dX4_become_119 rfl ?_
  refine V_getr (pc := 120) dX4_become_120 fX4_30 zk_32 zr_32_9 ?_
  refine V_iconst (pc := 123) dX4_become_123 ?_
  refine V_bipush (pc := 124) dX4_become_124 (by decide +kernel) ?_
  refine V_copy (pc := 126) dX4_become_126 kX4_52 zk_58 zk_42 rfl (by decide) (by decide) (by decide) (Nat.le_of_ble_eq_true rfl) ?_
  refine V_aloadn (pc := 129) dX4_become_129 rfl ?_
  refine V_getr (pc := 130) dX4_become_130 fX4_33 zk_48 zr_48_10 ?_
  refine V_iconst (pc := 133) dX4_become_133 ?_
  refine V_aloadn (pc := 134) dX4_become_134 rfl ?_
  refine V_getr (pc := 135) dX4_become_135 fX4_33 zk_32 zr_32_10 ?_
  refine V_iconst (pc := 138) dX4_become_138 ?_
  refine V_bipush (pc := 139) dX4_become_139 (by decide +kernel) ?_
  refine V_copy (pc := 141) dX4_become_141 kX4_52 zk_59 zk_43 rfl (by decide) (by decide) (by decide) (Nat.le_of_ble_eq_true rfl) ?_
  refine V_aloadn (pc := 144) dX4_become_144 rfl ?_
  refine V_getr (pc := 145) dX4_become_145 fX4_36 zk_48 zr_48_11 ?_
  refine V_iconst (pc := 148) dX4_become_148 ?_
  refine V_aloadn (pc := 149) dX4_become_149 rfl ?_
  refine V_getr (pc := 150) dX4_become_150 fX4_36 zk_32 zr_32_11 ?_
  refine V_iconst (pc := 153) dX4_become_153 ?_
  refine V_bipush (pc := 154) dX4_become_154 (by decide +kernel) ?_
  refine V_copy (pc := 156) dX4_become_156 kX4_52 zk_60 zk_44 rfl (by decide) (by decide) (by decide) (Nat.le_of_ble_eq_true rfl) ?_
  refine V_aloadn (pc := 159) dX4_become_159 rfl ?_
  refine V_getr (pc := 160) dX4_become_160 fX4_39 zk_48 zr_48_12 ?_
  refine V_iconst (pc := 163) dX4_become_163 ?_
  refine V_aloadn (pc := 164) dX4_become_164 rfl ?_
  refine V_getr (pc := 165) dX4_become_165 fX4_39 zk_32 zr_32_12 ?_
  refine V_iconst (pc := 168) dX4_become_168 ?_
  refine V_bipush (pc := 169) dX4_become_169 (by decide +kernel) ?_
  refine V_copy (pc := 171) dX4_become_171 kX4_52 zk_61 zk_45 rfl (by decide) (by decide) (by decide) (Nat.le_of_ble_eq_true rfl) ?_
  refine V_vret (x := 0) hX dX4_become_174 rfl ?_
  refine ⟨rfl, fun k h1 h2 => ?_, ⟨?_, ?_, ?_⟩, ?_, ?_, ?_, ?_, ?_, ?_, ?_, ?_, ?_, ?_⟩
  · funext b
    simp only [mw_ap, mu_ap]
    repeat (first | rw [if_neg (by omega)])
  all_goals (try intro i)
  all_goals simp [mw_ap, mu_ap]


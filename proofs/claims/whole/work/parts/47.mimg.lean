/-- the images' row with n1 posts and n2 tellings of image i kept -/
def kpR (μ : Mem) (a : Int) (n1 n2 : Int) : Row := fun x => if a ≤ x ∧ (x : Int) < a + n1 then μ 270 (x - a).toNat + 10 * μ 271 (x - a).toNat else if a + 10 ≤ x ∧ (x : Int) < a + 10 + n2 then μ 272 (x - a - 10).toNat else μ 311 x
theorem kpR_1 {μ : Mem} {a n1 : Int} (ha : 0 ≤ a) (hn : 0 ≤ n1 ∧ n1 < 9) : up (kpR μ a n1 0) (a + n1).toNat (μ 270 n1.toNat + 10 * μ 271 n1.toNat) = kpR μ a (n1 + 1) 0 := by
  funext x
  unfold up kpR
  by_cases h : x = (a + n1).toNat
  · rw [if_pos h, if_pos (show a ≤ x ∧ (x : Int) < a + (n1 + 1) by omega), show ((x : Int) - a).toNat = n1.toNat by omega]
  · rw [if_neg h]
    by_cases h2 : a ≤ x ∧ (x : Int) < a + n1
    · rw [if_pos h2, if_pos (show a ≤ x ∧ (x : Int) < a + (n1 + 1) by omega)]
    · rw [if_neg h2, if_neg (show ¬ (a ≤ x ∧ (x : Int) < a + (n1 + 1)) by omega)]
theorem kpR_2 {μ : Mem} {a n2 : Int} (ha : 0 ≤ a) (hn : 0 ≤ n2 ∧ n2 < 81) : up (kpR μ a 9 n2) (a + 10 + n2).toNat (μ 272 n2.toNat) = kpR μ a 9 (n2 + 1) := by
  funext x
  unfold up kpR
  by_cases h : x = (a + 10 + n2).toNat
  · rw [if_pos h, if_neg (show ¬ (a ≤ x ∧ (x : Int) < a + 9) by omega), if_pos (show a + 10 ≤ x ∧ (x : Int) < a + 10 + (n2 + 1) by omega), show ((x : Int) - a - 10).toNat = n2.toNat by omega]
  · rw [if_neg h]
    by_cases h1 : a ≤ x ∧ (x : Int) < a + 9
    · rw [if_pos h1, if_pos h1]
    · rw [if_neg h1, if_neg h1]
      by_cases h2 : a + 10 ≤ x ∧ (x : Int) < a + 10 + n2
      · rw [if_pos h2, if_pos (show a + 10 ≤ x ∧ (x : Int) < a + 10 + (n2 + 1) by omega)]
      · rw [if_neg h2, if_neg (show ¬ (a + 10 ≤ x ∧ (x : Int) < a + 10 + (n2 + 1)) by omega)]
theorem kpR_0 {μ : Mem} {a : Int} : kpR μ a 0 0 = μ 311 := by
  funext x; unfold kpR; rw [if_neg (by omega), if_neg (by omega)]
def mKeep (μ : Mem) (i : Int) : Int × Mem := if 0 ≤ i ∧ i ≤ 1 then (1, mu (mw μ 311 (up (kpR μ (100 * i) 9 81) (100 * i + 91).toNat (μ 256 16))) 312 i.toNat 1) else (-1000000001, μ)

set_option maxRecDepth 20000 in
theorem l_mkeep2 {μ : Mem} {i : Int} (hi : 0 ≤ i ∧ i ≤ 1) {X : ZX} (hX : isM X (fun w m => w = vi (mKeep μ i).1 ∧ m = (mKeep μ i).2)) : ∀ (n : Nat) (p : Int), (p + n = 81) → (0 ≤ p) → V X mX12_keep 58 [vr 256, vi i, vi (100 * i), vi p] [] (mw μ 311 (kpR μ (100 * i) 9 p)) := by
  intro n
  induction n with
  | zero =>
    intro p h1 h2
    obtain rfl : p = 81 := by omega
    refine V_iloadn (pc := 58) dX12_keep_58 rfl ?_
    refine V_bipush (pc := 59) dX12_keep_59 (by decide +kernel) ?_
    refine V_icmp_ge (pc := 61) (tgt := 87) dX12_keep_61 (by decide) (by omega) (by decide) (fun h61 => ?_) (fun h61 => ?_)
    · refine V_aloadn (pc := 87) dX12_keep_87 rfl ?_
      refine V_getr (pc := 88) dX12_keep_88 fX12_111 zk_256 zr_256_54 ?_
      refine V_iloadn (pc := 91) dX12_keep_91 rfl ?_
      refine V_bipush (pc := 92) dX12_keep_92 (by decide +kernel) ?_
      refine V_iadd (pc := 94) dX12_keep_94 ?_
      refine V_aloadn (pc := 95) dX12_keep_95 rfl ?_
      refine V_geti (r := 0) (pc := 96) dX12_keep_96 fX12_332 zk_256 ?_
      rw [mw_c (by decide : (256 : Nat) ≠ 311)]
      refine V_iast (pc := 99) dX12_keep_99 zk_311 (by omega) (by omega) (by decide) ?_
      rw [mu_mw]
      refine V_aloadn (pc := 100) dX12_keep_100 rfl ?_
      refine V_getr (pc := 101) dX12_keep_101 fX12_114 zk_256 zr_256_55 ?_
      refine V_iloadn (pc := 104) dX12_keep_104 rfl ?_
      refine V_iconst (pc := 105) dX12_keep_105 ?_
      refine V_zast (pc := 106) dX12_keep_106 zk_312 (by omega) (by omega) (by decide) (by first | exact Or.inl rfl | exact Or.inr rfl) ?_
      refine V_iconst (pc := 107) dX12_keep_107 ?_
      refine V_iret hX dX12_keep_108 rfl ?_
      unfold mKeep
      rw [if_pos hi]
      exact ⟨rfl, rfl⟩
    · exfalso; omega
  | succ n ih =>
    intro p h1 h2
    refine V_iloadn (pc := 58) dX12_keep_58 rfl ?_
    refine V_bipush (pc := 59) dX12_keep_59 (by decide +kernel) ?_
    refine V_icmp_ge (pc := 61) (tgt := 87) dX12_keep_61 (by decide) (by omega) (by decide) (fun h61 => ?_) (fun h61 => ?_)
    · exfalso; omega
    · refine V_aloadn (pc := 64) dX12_keep_64 rfl ?_
      refine V_getr (pc := 65) dX12_keep_65 fX12_111 zk_256 zr_256_54 ?_
      refine V_iloadn (pc := 68) dX12_keep_68 rfl ?_
      refine V_bipush (pc := 69) dX12_keep_69 (by decide +kernel) ?_
      refine V_iadd (pc := 71) dX12_keep_71 ?_
      refine V_iloadn (pc := 72) dX12_keep_72 rfl ?_
      refine V_iadd (pc := 73) dX12_keep_73 ?_
      refine V_aloadn (pc := 74) dX12_keep_74 rfl ?_
      refine V_getr (pc := 75) dX12_keep_75 fX12_46 zk_256 zr_256_15 ?_
      refine V_iloadn (pc := 78) dX12_keep_78 rfl ?_
      refine V_iald (pc := 79) dX12_keep_79 zk_272 (by omega) (by omega) (by decide) ?_
      rw [mw_c (by decide : (272 : Nat) ≠ 311)]
      refine V_iast (pc := 80) dX12_keep_80 zk_311 (by omega) (by omega) (by decide) ?_
      rw [mu_mw]
      rw [kpR_2 (by omega) (by omega)]
      refine V_iinc_3 (pc := 81) dX12_keep_81 (by decide) rfl ?_
      refine V_goto (pc := 84) (tgt := 58) dX12_keep_84 (by decide) ?_
      exact ih _ (by omega) (by omega)

set_option maxRecDepth 20000 in
theorem l_mkeep1 {μ : Mem} {i : Int} (hi : 0 ≤ i ∧ i ≤ 1) {X : ZX} (hX : isM X (fun w m => w = vi (mKeep μ i).1 ∧ m = (mKeep μ i).2)) : ∀ (n : Nat) (p : Int), (p + n = 9) → (0 ≤ p) → V X mX12_keep 20 [vr 256, vi i, vi (100 * i), vi p] [] (mw μ 311 (kpR μ (100 * i) p 0)) := by
  intro n
  induction n with
  | zero =>
    intro p h1 h2
    obtain rfl : p = 9 := by omega
    refine V_iloadn (pc := 20) dX12_keep_20 rfl ?_
    refine V_bipush (pc := 21) dX12_keep_21 (by decide +kernel) ?_
    refine V_icmp_ge (pc := 23) (tgt := 56) dX12_keep_23 (by decide) (by omega) (by decide) (fun h23 => ?_) (fun h23 => ?_)
    · refine V_iconst (pc := 56) dX12_keep_56 ?_
      refine V_istore_3 (pc := 57) dX12_keep_57 (by decide) rfl ?_
      exact l_mkeep2 hi hX 81 0 (by omega) (by omega)
    · exfalso; omega
  | succ n ih =>
    intro p h1 h2
    refine V_iloadn (pc := 20) dX12_keep_20 rfl ?_
    refine V_bipush (pc := 21) dX12_keep_21 (by decide +kernel) ?_
    refine V_icmp_ge (pc := 23) (tgt := 56) dX12_keep_23 (by decide) (by omega) (by decide) (fun h23 => ?_) (fun h23 => ?_)
    · exfalso; omega
    · refine V_aloadn (pc := 26) dX12_keep_26 rfl ?_
      refine V_getr (pc := 27) dX12_keep_27 fX12_111 zk_256 zr_256_54 ?_
      refine V_iloadn (pc := 30) dX12_keep_30 rfl ?_
      refine V_iloadn (pc := 31) dX12_keep_31 rfl ?_
      refine V_iadd (pc := 32) dX12_keep_32 ?_
      refine V_aloadn (pc := 33) dX12_keep_33 rfl ?_
      refine V_getr (pc := 34) dX12_keep_34 fX12_40 zk_256 zr_256_13 ?_
      refine V_iloadn (pc := 37) dX12_keep_37 rfl ?_
      refine V_iald (pc := 38) dX12_keep_38 zk_270 (by omega) (by omega) (by decide) ?_
      rw [mw_c (by decide : (270 : Nat) ≠ 311)]
      refine V_bipush (pc := 39) dX12_keep_39 (by decide +kernel) ?_
      refine V_aloadn (pc := 41) dX12_keep_41 rfl ?_
      refine V_getr (pc := 42) dX12_keep_42 fX12_43 zk_256 zr_256_14 ?_
      refine V_iloadn (pc := 45) dX12_keep_45 rfl ?_
      refine V_iald (pc := 46) dX12_keep_46 zk_271 (by omega) (by omega) (by decide) ?_
      rw [mw_c (by decide : (271 : Nat) ≠ 311)]
      refine V_imul (pc := 47) dX12_keep_47 ?_
      refine V_iadd (pc := 48) dX12_keep_48 ?_
      refine V_iast (pc := 49) dX12_keep_49 zk_311 (by omega) (by omega) (by decide) ?_
      rw [mu_mw]
      rw [kpR_1 (by omega) (by omega)]
      refine V_iinc_3 (pc := 50) dX12_keep_50 (by decide) rfl ?_
      refine V_goto (pc := 53) (tgt := 20) dX12_keep_53 (by decide) ?_
      exact ih _ (by omega) (by omega)

set_option maxRecDepth 20000 in
theorem r_keep {μ : Mem} {i : Int} (hi : inR i) : SP mX12_keep [vr 256, vi i] μ (fun w m => w = vi (mKeep μ i).1 ∧ m = (mKeep μ i).2) := by
  refine SP_intro (ls := [vr 256, vi i, un, un]) (by decide +kernel) rfl rfl (Nat.le_of_ble_eq_true rfl) rfl (fun X hX => ?_)
  refine V_iloadn (pc := 0) dX12_keep_0 rfl ?_
  refine V_i2l (pc := 1) dX12_keep_1 (by omega) ?_
  refine V_lconst0 (pc := 2) dX12_keep_2 ?_
  refine V_lconst1 (pc := 3) dX12_keep_3 ?_
  refine V_cs3 (pc := 4) dX12_keep_4 kX12_121 (by decide) (Nat.le_of_ble_eq_true rfl) (r_in (by omega) (by decide) (by decide)) rfl ?_
  refine V_ifne_b (pc := 7) (tgt := 13) dX12_keep_7 (by decide) (fun h7 => ?_) (fun h7 => ?_)
  · refine V_bipush (pc := 13) dX12_keep_13 (by decide +kernel) ?_
    refine V_iloadn (pc := 15) dX12_keep_15 rfl ?_
    refine V_imul (pc := 16) dX12_keep_16 ?_
    refine V_istore_2 (pc := 17) dX12_keep_17 (by decide) rfl ?_
    refine V_iconst (pc := 18) dX12_keep_18 ?_
    refine V_istore_3 (pc := 19) dX12_keep_19 (by decide) rfl ?_
    have e : mw μ 311 (kpR μ (100 * i) 0 0) = μ := by rw [kpR_0, mw_id]
    have z := l_mkeep1 (μ := μ) (i := i) (by omega) hX 9 0 (by omega) (by omega)
    rw [e] at z
    exact z
  · refine V_ldc (pc := 10) (n := -1000000001) dX12_keep_10 nX12_246 (by decide) ?_
    refine V_iret hX dX12_keep_12 rfl ?_
    unfold mKeep
    rw [if_neg (by omega)]
    exact ⟨rfl, rfl⟩

/-- behind a posts and b tellings of image i given back -/
def gb1 (μ : Mem) (a : Int) (n1 n2 : Int) : Mem := fun k x => if k = 270 ∧ (x : Int) < n1 then (μ 311 (a + x).toNat) % 10 else if k = 271 ∧ (x : Int) < n1 then (μ 311 (a + x).toNat) / 10 else if k = 272 ∧ (x : Int) < n2 then μ 311 (a + 10 + x).toNat else μ k x
theorem gb1_out {μ : Mem} {a n1 n2 : Int} {k : Nat} (h1 : k ≠ 270) (h2 : k ≠ 271) (h3 : k ≠ 272) : gb1 μ a n1 n2 k = μ k := by funext x; simp [gb1, h1, h2, h3]
theorem gb1_00 {μ : Mem} {a : Int} : gb1 μ a 0 0 = μ := by
  funext k x; unfold gb1; rw [if_neg (by omega), if_neg (by omega), if_neg (by omega)]
theorem gb1_1 {μ : Mem} {a n1 : Int} (hn : 0 ≤ n1) : mu (mu (gb1 μ a n1 0) 270 n1.toNat ((μ 311 (a + n1).toNat) % 10)) 271 n1.toNat ((μ 311 (a + n1).toNat) / 10) = gb1 μ a (n1 + 1) 0 := by
  funext k x
  simp only [mu, gb1]
  by_cases e : x = n1.toNat
  · have ex : a + (x : Int) = a + n1 := by omega
    by_cases k0 : k = 270
    · rw [if_neg (show ¬ (k = 271 ∧ x = n1.toNat) by omega), if_pos ⟨k0, e⟩, if_pos (show k = 270 ∧ (x : Int) < n1 + 1 by omega), ex]
    · by_cases k1 : k = 271
      · rw [if_pos ⟨k1, e⟩, if_neg (show ¬ (k = 270 ∧ (x : Int) < n1 + 1) by omega), if_pos (show k = 271 ∧ (x : Int) < n1 + 1 by omega), ex]
      · rw [if_neg (show ¬ (k = 271 ∧ x = n1.toNat) by omega), if_neg (show ¬ (k = 270 ∧ x = n1.toNat) by omega)]
        rw [if_neg (show ¬ (k = 270 ∧ (x : Int) < n1) by omega), if_neg (show ¬ (k = 271 ∧ (x : Int) < n1) by omega), if_neg (show ¬ (k = 270 ∧ (x : Int) < n1 + 1) by omega), if_neg (show ¬ (k = 271 ∧ (x : Int) < n1 + 1) by omega)]
  · rw [if_neg (show ¬ (k = 271 ∧ x = n1.toNat) by omega), if_neg (show ¬ (k = 270 ∧ x = n1.toNat) by omega)]
    by_cases k0 : k = 270 ∧ (x : Int) < n1
    · rw [if_pos k0, if_pos (show k = 270 ∧ (x : Int) < n1 + 1 by omega)]
    · rw [if_neg k0, if_neg (show ¬ (k = 270 ∧ (x : Int) < n1 + 1) by omega)]
      by_cases k1 : k = 271 ∧ (x : Int) < n1
      · rw [if_pos k1, if_pos (show k = 271 ∧ (x : Int) < n1 + 1 by omega)]
      · rw [if_neg k1, if_neg (show ¬ (k = 271 ∧ (x : Int) < n1 + 1) by omega)]
theorem gb1_2 {μ : Mem} {a n2 : Int} (hn : 0 ≤ n2) : mu (gb1 μ a 9 n2) 272 n2.toNat (μ 311 (a + 10 + n2).toNat) = gb1 μ a 9 (n2 + 1) := by
  funext k x
  simp only [mu, gb1]
  by_cases e : k = 272 ∧ x = n2.toNat
  · have ex : a + 10 + (x : Int) = a + 10 + n2 := by omega
    rw [if_pos e, if_neg (show ¬ (k = 270 ∧ (x : Int) < 9) by omega), if_neg (show ¬ (k = 271 ∧ (x : Int) < 9) by omega), if_pos (show k = 272 ∧ (x : Int) < n2 + 1 by omega), ex]
  · rw [if_neg e]
    by_cases k0 : k = 270 ∧ (x : Int) < 9
    · rw [if_pos k0, if_pos k0]
    · rw [if_neg k0, if_neg k0]
      by_cases k1 : k = 271 ∧ (x : Int) < 9
      · rw [if_pos k1, if_pos k1]
      · rw [if_neg k1, if_neg k1]
        by_cases k2 : k = 272 ∧ (x : Int) < n2
        · rw [if_pos k2, if_pos (show k = 272 ∧ (x : Int) < n2 + 1 by omega)]
        · rw [if_neg k2, if_neg (show ¬ (k = 272 ∧ (x : Int) < n2 + 1) by omega)]
def mBack (μ : Mem) (i : Int) : Int × Mem := if 0 ≤ i ∧ i ≤ 1 then (if μ 312 i.toNat = 0 then (-1000000003, μ) else (1, mu (gb1 μ (100 * i) 9 81) 256 16 (μ 311 (100 * i + 91).toNat))) else (-1000000001, μ)

set_option maxRecDepth 20000 in
theorem l_gb2 {μ : Mem} {i : Int} (hi : 0 ≤ i ∧ i ≤ 1) (hk : ¬ μ 312 i.toNat = 0) (hI : ∀ x, inR (μ 311 x)) (hI0 : ∀ p : Nat, p < 9 → 0 ≤ μ 311 (100 * i + p).toNat) {X : ZX} (hX : isM X (fun w m => w = vi (mBack μ i).1 ∧ m = (mBack μ i).2)) : ∀ (n : Nat) (p : Int), (p + n = 81) → (0 ≤ p) → V X mX12_goBack 81 [vr 256, vi i, vi (100 * i), vi p] [] (gb1 μ (100 * i) 9 p) := by
  intro n
  induction n with
  | zero =>
    intro p h1 h2
    obtain rfl : p = 81 := by omega
    refine V_iloadn (pc := 81) dX12_goBack_81 rfl ?_
    refine V_bipush (pc := 82) dX12_goBack_82 (by decide +kernel) ?_
    refine V_icmp_ge (pc := 84) (tgt := 110) dX12_goBack_84 (by decide) (by omega) (by decide) (fun h84 => ?_) (fun h84 => ?_)
    · refine V_aloadn (pc := 110) dX12_goBack_110 rfl ?_
      refine V_aloadn (pc := 111) dX12_goBack_111 rfl ?_
      refine V_getr (pc := 112) dX12_goBack_112 fX12_111 zk_256 zr_256_54 ?_
      refine V_iloadn (pc := 115) dX12_goBack_115 rfl ?_
      refine V_bipush (pc := 116) dX12_goBack_116 (by decide +kernel) ?_
      refine V_iadd (pc := 118) dX12_goBack_118 ?_
      refine V_iald (pc := 119) dX12_goBack_119 zk_311 (by omega) (by omega) (by decide) ?_
      rw [gb1_out (by decide) (by decide) (by decide)]
      refine V_puti (pc := 120) dX12_goBack_120 fX12_332 zk_256 ?_
      refine V_iconst (pc := 123) dX12_goBack_123 ?_
      refine V_iret hX dX12_goBack_124 rfl ?_
      unfold mBack
      rw [if_pos hi, if_neg hk]
      exact ⟨rfl, rfl⟩
    · exfalso; omega
  | succ n ih =>
    intro p h1 h2
    refine V_iloadn (pc := 81) dX12_goBack_81 rfl ?_
    refine V_bipush (pc := 82) dX12_goBack_82 (by decide +kernel) ?_
    refine V_icmp_ge (pc := 84) (tgt := 110) dX12_goBack_84 (by decide) (by omega) (by decide) (fun h84 => ?_) (fun h84 => ?_)
    · exfalso; omega
    · refine V_aloadn (pc := 87) dX12_goBack_87 rfl ?_
      refine V_getr (pc := 88) dX12_goBack_88 fX12_46 zk_256 zr_256_15 ?_
      refine V_iloadn (pc := 91) dX12_goBack_91 rfl ?_
      refine V_aloadn (pc := 92) dX12_goBack_92 rfl ?_
      refine V_getr (pc := 93) dX12_goBack_93 fX12_111 zk_256 zr_256_54 ?_
      refine V_iloadn (pc := 96) dX12_goBack_96 rfl ?_
      refine V_bipush (pc := 97) dX12_goBack_97 (by decide +kernel) ?_
      refine V_iadd (pc := 99) dX12_goBack_99 ?_
      refine V_iloadn (pc := 100) dX12_goBack_100 rfl ?_
      refine V_iadd (pc := 101) dX12_goBack_101 ?_
      refine V_iald (pc := 102) dX12_goBack_102 zk_311 (by omega) (by omega) (by decide) ?_
      rw [gb1_out (by decide) (by decide) (by decide)]
      refine V_iast (pc := 103) dX12_goBack_103 zk_272 (by omega) (by omega) (by decide) ?_
      rw [gb1_2 (by omega)]
      refine V_iinc_3 (pc := 104) dX12_goBack_104 (by decide) rfl ?_
      refine V_goto (pc := 107) (tgt := 81) dX12_goBack_107 (by decide) ?_
      exact ih _ (by omega) (by omega)

set_option maxRecDepth 20000 in
theorem l_gb1 {μ : Mem} {i : Int} (hi : 0 ≤ i ∧ i ≤ 1) (hk : ¬ μ 312 i.toNat = 0) (hI : ∀ x, inR (μ 311 x)) (hI0 : ∀ p : Nat, p < 9 → 0 ≤ μ 311 (100 * i + p).toNat) {X : ZX} (hX : isM X (fun w m => w = vi (mBack μ i).1 ∧ m = (mBack μ i).2)) : ∀ (n : Nat) (p : Int), (p + n = 9) → (0 ≤ p) → V X mX12_goBack 33 [vr 256, vi i, vi (100 * i), vi p] [] (gb1 μ (100 * i) p 0) := by
  intro n
  induction n with
  | zero =>
    intro p h1 h2
    obtain rfl : p = 9 := by omega
    refine V_iloadn (pc := 33) dX12_goBack_33 rfl ?_
    refine V_bipush (pc := 34) dX12_goBack_34 (by decide +kernel) ?_
    refine V_icmp_ge (pc := 36) (tgt := 79) dX12_goBack_36 (by decide) (by omega) (by decide) (fun h36 => ?_) (fun h36 => ?_)
    · refine V_iconst (pc := 79) dX12_goBack_79 ?_
      refine V_istore_3 (pc := 80) dX12_goBack_80 (by decide) rfl ?_
      exact l_gb2 hi hk hI hI0 hX 81 0 (by omega) (by omega)
    · exfalso; omega
  | succ n ih =>
    intro p h1 h2
    have v0 := hI (100 * i + p).toNat
    have v1 := hI0 p.toNat (by omega)
    rw [show ((p.toNat : Nat) : Int) = p by omega] at v1
    have t0 := tdiv_rg (a := μ 311 (100 * i + p).toNat) (b := 10) v1 (by decide)
    refine V_iloadn (pc := 33) dX12_goBack_33 rfl ?_
    refine V_bipush (pc := 34) dX12_goBack_34 (by decide +kernel) ?_
    refine V_icmp_ge (pc := 36) (tgt := 79) dX12_goBack_36 (by decide) (by omega) (by decide) (fun h36 => ?_) (fun h36 => ?_)
    · exfalso; omega
    · refine V_aloadn (pc := 39) dX12_goBack_39 rfl ?_
      refine V_getr (pc := 40) dX12_goBack_40 fX12_40 zk_256 zr_256_13 ?_
      refine V_iloadn (pc := 43) dX12_goBack_43 rfl ?_
      refine V_aloadn (pc := 44) dX12_goBack_44 rfl ?_
      refine V_getr (pc := 45) dX12_goBack_45 fX12_111 zk_256 zr_256_54 ?_
      refine V_iloadn (pc := 48) dX12_goBack_48 rfl ?_
      refine V_iloadn (pc := 49) dX12_goBack_49 rfl ?_
      refine V_iadd (pc := 50) dX12_goBack_50 ?_
      refine V_iald (pc := 51) dX12_goBack_51 zk_311 (by omega) (by omega) (by decide) ?_
      rw [gb1_out (by decide) (by decide) (by decide)]
      refine V_bipush (pc := 52) dX12_goBack_52 (by decide +kernel) ?_
      refine V_irem (pc := 54) dX12_goBack_54 (by omega) (by decide) (by decide) (by omega) ?_
      rw [Int.tmod_eq_emod_of_nonneg v1]
      refine V_iast (pc := 55) dX12_goBack_55 zk_270 (by omega) (by omega) (by decide) ?_
      refine V_aloadn (pc := 56) dX12_goBack_56 rfl ?_
      refine V_getr (pc := 57) dX12_goBack_57 fX12_43 zk_256 zr_256_14 ?_
      refine V_iloadn (pc := 60) dX12_goBack_60 rfl ?_
      refine V_aloadn (pc := 61) dX12_goBack_61 rfl ?_
      refine V_getr (pc := 62) dX12_goBack_62 fX12_111 zk_256 zr_256_54 ?_
      refine V_iloadn (pc := 65) dX12_goBack_65 rfl ?_
      refine V_iloadn (pc := 66) dX12_goBack_66 rfl ?_
      refine V_iadd (pc := 67) dX12_goBack_67 ?_
      refine V_iald (pc := 68) dX12_goBack_68 zk_311 (by omega) (by omega) (by decide) ?_
      rw [mu_c (by decide : (311 : Nat) ≠ 270)]
      rw [gb1_out (by decide) (by decide) (by decide)]
      refine V_bipush (pc := 69) dX12_goBack_69 (by decide +kernel) ?_
      refine V_idiv (pc := 71) dX12_goBack_71 (by omega) (by decide) (by decide) (by omega) ?_
      rw [Int.tdiv_eq_ediv_of_nonneg v1]
      refine V_iast (pc := 72) dX12_goBack_72 zk_271 (by omega) (by omega) (by decide) ?_
      rw [gb1_1 (by omega)]
      refine V_iinc_3 (pc := 73) dX12_goBack_73 (by decide) rfl ?_
      refine V_goto (pc := 76) (tgt := 33) dX12_goBack_76 (by decide) ?_
      exact ih _ (by omega) (by omega)

set_option maxRecDepth 20000 in
theorem r_goBack {μ : Mem} {i : Int} (hi : inR i) (hk01 : ∀ j : Nat, μ 312 j = 0 ∨ μ 312 j = 1) (hI : ∀ x, inR (μ 311 x)) (hI0 : (0 ≤ i ∧ i ≤ 1) → ¬ μ 312 i.toNat = 0 → ∀ p : Nat, p < 9 → 0 ≤ μ 311 (100 * i + p).toNat) : SP mX12_goBack [vr 256, vi i] μ (fun w m => w = vi (mBack μ i).1 ∧ m = (mBack μ i).2) := by
  refine SP_intro (ls := [vr 256, vi i, un, un]) (by decide +kernel) rfl rfl (Nat.le_of_ble_eq_true rfl) rfl (fun X hX => ?_)
  have kk := hk01 i.toNat
  refine V_iloadn (pc := 0) dX12_goBack_0 rfl ?_
  refine V_i2l (pc := 1) dX12_goBack_1 (by omega) ?_
  refine V_lconst0 (pc := 2) dX12_goBack_2 ?_
  refine V_lconst1 (pc := 3) dX12_goBack_3 ?_
  refine V_cs3 (pc := 4) dX12_goBack_4 kX12_121 (by decide) (Nat.le_of_ble_eq_true rfl) (r_in (by omega) (by decide) (by decide)) rfl ?_
  refine V_ifne_b (pc := 7) (tgt := 13) dX12_goBack_7 (by decide) (fun h7 => ?_) (fun h7 => ?_)
  · refine V_aloadn (pc := 13) dX12_goBack_13 rfl ?_
    refine V_getr (pc := 14) dX12_goBack_14 fX12_114 zk_256 zr_256_55 ?_
    refine V_iloadn (pc := 17) dX12_goBack_17 rfl ?_
    refine V_zald (pc := 18) dX12_goBack_18 zk_312 (by omega) (by omega) (by decide) ?_
    refine V_if_ne (pc := 19) (tgt := 26) dX12_goBack_19 (by decide) (by omega) (fun h19 => ?_) (fun h19 => ?_)
    · refine V_bipush (pc := 26) dX12_goBack_26 (by decide +kernel) ?_
      refine V_iloadn (pc := 28) dX12_goBack_28 rfl ?_
      refine V_imul (pc := 29) dX12_goBack_29 ?_
      refine V_istore_2 (pc := 30) dX12_goBack_30 (by decide) rfl ?_
      refine V_iconst (pc := 31) dX12_goBack_31 ?_
      refine V_istore_3 (pc := 32) dX12_goBack_32 (by decide) rfl ?_
      have z := l_gb1 (μ := μ) (i := i) (by omega) (by omega) hI (hI0 (by omega) (by omega)) hX 9 0 (by omega) (by omega)
      rw [gb1_00] at z
      exact z
    · refine V_ldcw (pc := 22) (n := -1000000003) dX12_goBack_22 nX12_268 (by decide) ?_
      refine V_iret hX dX12_goBack_25 rfl ?_
      unfold mBack
      repeat (first | rw [if_pos (by omega)] | rw [if_neg (by omega)])
      exact ⟨rfl, rfl⟩
  · refine V_ldc (pc := 10) (n := -1000000001) dX12_goBack_10 nX12_246 (by decide) ?_
    refine V_iret hX dX12_goBack_12 rfl ?_
    unfold mBack
    repeat (first | rw [if_pos (by omega)] | rw [if_neg (by omega)])
    exact ⟨rfl, rfl⟩


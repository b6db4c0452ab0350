def ml0 (μ : Mem) : Mem := mu (mu (mu (mu (mu μ 256 19 (-1)) 256 20 0) 256 25 0) 256 26 0) 256 30 0
/-- the text that the reference was fed -/
def MT (μ : Mem) : Prop := (0 ≤ μ 256 18 ∧ μ 256 18 ≤ 400) ∧ ∀ i, 0 ≤ μ 274 i ∧ μ 274 i ≤ 255
theorem ml0_c {μ : Mem} {c : Nat} (h : c ≠ 256) : ml0 μ c = μ c := by
  unfold ml0; rw [mu_ne h, mu_ne h, mu_ne h, mu_ne h, mu_ne h]
theorem ml0_j {μ : Mem} {j : Nat} (h : j < 19 ∨ (26 < j ∧ j ≠ 30)) : ml0 μ 256 j = μ 256 j := by
  unfold ml0; rw [mu_j (by omega), mu_j (by omega), mu_j (by omega), mu_j (by omega), mu_j (by omega)]
theorem ml0_20 {μ : Mem} : ml0 μ 256 20 = 0 := by unfold ml0; rw [mu_j (by decide), mu_j (by decide), mu_j (by decide), mu_h]
theorem ml0_25 {μ : Mem} : ml0 μ 256 25 = 0 := by unfold ml0; rw [mu_j (by decide), mu_j (by decide), mu_h]
theorem ml0_26 {μ : Mem} : ml0 μ 256 26 = 0 := by unfold ml0; rw [mu_j (by decide), mu_h]
theorem ml0_30 {μ : Mem} : ml0 μ 256 30 = 0 := by unfold ml0; rw [mu_h]
theorem ml0_19 {μ : Mem} : ml0 μ 256 19 = -1 := by unfold ml0; rw [mu_j (by decide), mu_j (by decide), mu_j (by decide), mu_j (by decide), mu_h]
theorem FP_ml0 (μ : Mem) : FPm μ (ml0 μ) := ⟨fun c h _ => ml0_c h, fun j h => ml0_j h⟩
theorem PRI_ml0 {μ : Mem} (h : MT μ) : PRI (ml0 μ) := by
  refine ⟨⟨⟨?_, ?_, ?_⟩, ⟨?_, ?_⟩, ?_, ?_⟩, ?_, ?_, ?_⟩
  · rw [ml0_j (by decide)]; exact h.1
  · rw [ml0_c (by decide)]; exact h.2
  · rw [ml0_20, ml0_j (by decide)]; exact ⟨by decide, h.1.1⟩
  · rw [ml0_26]; decide
  · rw [ml0_26]; intro r hr; omega
  · rw [ml0_25]; decide
  · rw [ml0_30]; decide
  · rw [ml0_26]; intro r hr; omega
  · rw [ml0_26]; intro p; show (0 : Int) ≤ 5; decide
  · rw [ml0_30]; intro r hr; omega
def mlR (μ : Mem) : Int × Mem := mrL 402 0 (ml0 μ)
theorem mlR_r {μ : Mem} (h : MT μ) : (0 ≤ (mlR μ).1 ∧ (mlR μ).1 ≤ 4) ∧ ((mlR μ).1 = 0 → PRI (mlR μ).2) ∧ FPm μ (mlR μ).2 := by
  have hp := PRI_ml0 h
  obtain ⟨h1, h2, h3⟩ := mrL_r 402 0 (ml0 μ) (by decide) (fun _ => ⟨hp, by rw [ml0_20, ml0_j (by decide)]; have := h.1; omega⟩)
  exact ⟨h1, h2, (FP_ml0 μ).tr h3⟩

/-- k entries of the rows a .. a+2 are those of b .. b+2 -/
def CPk (a b : Nat) (k : Int) (μ ν : Mem) : Prop := (∀ c, c ≠ a → c ≠ a + 1 → c ≠ a + 2 → ν c = μ c) ∧ (∀ i : Nat, ν a i = if (i : Int) < k then μ b i else μ a i) ∧ (∀ i : Nat, ν (a + 1) i = if (i : Int) < k then μ (b + 1) i else μ (a + 1) i) ∧ ∀ i : Nat, ν (a + 2) i = if (i : Int) < k then μ (b + 2) i else μ (a + 2) i
theorem CPk_0 (a b : Nat) (μ : Mem) : CPk a b 0 μ μ := ⟨fun _ _ _ _ => rfl, fun i => by rw [if_neg (by omega)], fun i => by rw [if_neg (by omega)], fun i => by rw [if_neg (by omega)]⟩
theorem CPk_s {a b : Nat} (hab : a + 2 < b) {k : Int} (hk : 0 ≤ k) {μ ν : Mem} (h : CPk a b k μ ν) {x y z : Int} (hx : x = ν b k.toNat) (hy : y = ν (b + 1) k.toNat) (hz : z = ν (b + 2) k.toNat) : CPk a b (k + 1) μ (mu (mu (mu ν a k.toNat x) (a + 1) k.toNat y) (a + 2) k.toNat z) := by
  obtain ⟨h1, h2, h3, h4⟩ := h
  rw [h1 b (by omega) (by omega) (by omega)] at hx
  rw [h1 (b + 1) (by omega) (by omega) (by omega)] at hy
  rw [h1 (b + 2) (by omega) (by omega) (by omega)] at hz
  refine ⟨fun c a1 a2 a3 => ?_, fun i => ?_, fun i => ?_, fun i => ?_⟩
  · rw [mu_ne a3, mu_ne a2, mu_ne a1]; exact h1 c a1 a2 a3
  · rw [mu_c (by omega), mu_c (by omega), mu_ap, h2]
    by_cases e : i = k.toNat
    · rw [if_pos ⟨rfl, e⟩, if_pos (by omega), e, hx]
    · rw [if_neg (fun q => e q.2)]
      by_cases e2 : (i : Int) < k
      · rw [if_pos e2, if_pos (by omega)]
      · rw [if_neg e2, if_neg (by omega)]
  · rw [mu_c (by omega), mu_ap, mu_c (by omega), h3]
    by_cases e : i = k.toNat
    · rw [if_pos ⟨rfl, e⟩, if_pos (by omega), e, hy]
    · rw [if_neg (fun q => e q.2)]
      by_cases e2 : (i : Int) < k
      · rw [if_pos e2, if_pos (by omega)]
      · rw [if_neg e2, if_neg (by omega)]
  · rw [mu_ap, mu_c (by omega), mu_c (by omega), h4]
    by_cases e : i = k.toNat
    · rw [if_pos ⟨rfl, e⟩, if_pos (by omega), e, hz]
    · rw [if_neg (fun q => e q.2)]
      by_cases e2 : (i : Int) < k
      · rw [if_pos e2, if_pos (by omega)]
      · rw [if_neg e2, if_neg (by omega)]
theorem mrt_c {s : Int} {c : Nat} (h0 : c ≠ 270) (h1 : c ≠ 271) (h2 : c ≠ 272) : ∀ (n : Nat) (p k : Int) (m : Mem), (mrt s n p k m).2 c = m c := by
  intro n
  induction n with
  | zero => intro p k m; rfl
  | succ n ih =>
    intro p k m
    rw [mrt_s]
    split
    · rw [ih]
      unfold mRp
      rw [mu_ne h1, mu_ne h0, mst_out h2]
    · exact ih _ _ _
def ml1 (m : Mem) : Mem := mu (mu (mu (mu m 256 18 0) 256 0 (m 256 25)) 256 1 (m 256 26)) 256 5 (m 256 30)
def ml9 (m : Mem) : Mem := mu (mu (mu (mu m 256 41 0) 256 49 0) 312 0 0) 312 1 0
def mLand (μ : Mem) (w : AV) (m : Mem) : Prop := (¬ (mlR μ).1 = 0 → w = vi (-10 - (mlR μ).1) ∧ m = mu (mlR μ).2 256 18 0) ∧ ((mlR μ).1 = 0 → ∃ m1 m2 m3, CPk 259 284 14 (ml1 (mlR μ).2) m1 ∧ CPk 263 288 20 m1 m2 ∧ VRm m2 ∧ FLm m2 m3 ∧ MB m3 ∧ w = vi (m2 256 0) ∧ m = ml9 (mrt (ishl 1 (m2 256 0) - 1) (m2 256 0).toNat 0 0 m3).2)
theorem ml1_c {m : Mem} {c : Nat} (h : c ≠ 256) : ml1 m c = m c := by unfold ml1; rw [mu_ne h, mu_ne h, mu_ne h, mu_ne h]
theorem VR_of {m m1 m2 : Mem} (h : PRI m) (h1 : CPk 259 284 14 (ml1 m) m1) (h2 : CPk 263 288 20 m1 m2) : VRm m2 := by
  obtain ⟨a1, a2, a3, a4⟩ := h1
  obtain ⟨b1, -, -, -⟩ := h2
  obtain ⟨p1, p2, p3, p4⟩ := h
  have e0 : m2 256 = ml1 m 256 := (b1 256 (by decide) (by decide) (by decide)).trans (a1 256 (by decide) (by decide) (by decide))
  have e00 : m2 256 0 = m 256 25 := by rw [e0]; unfold ml1; rw [mu_j (by decide), mu_j (by decide), mu_h]
  have e01 : m2 256 1 = m 256 26 := by rw [e0]; unfold ml1; rw [mu_j (by decide), mu_h]
  have hr := p1.2.1.1
  have f1 : ∀ r : Nat, (r : Int) < m 256 26 → m2 259 r = m 284 r := fun r hr => by rw [b1 259 (by decide) (by decide) (by decide), a2, if_pos (by omega), ml1_c (by decide)]
  have f2 : ∀ r : Nat, (r : Int) < m 256 26 → m2 260 r = m 285 r := fun r hr => by rw [b1 260 (by decide) (by decide) (by decide)]; have := a3 r; rw [if_pos (by omega)] at this; rw [this, ml1_c (by decide)]
  have f3 : ∀ r : Nat, (r : Int) < m 256 26 → m2 261 r = m 286 r := fun r hr => by rw [b1 261 (by decide) (by decide) (by decide)]; have := a4 r; rw [if_pos (by omega)] at this; rw [this, ml1_c (by decide)]
  refine ⟨by rw [e00]; exact p1.2.2.1, by rw [e01]; exact hr, fun r hr2 => ?_, fun p => ?_⟩
  · rw [e01] at hr2
    rw [e00, f1 r hr2, f2 r hr2, f3 r hr2]
    exact p2 r hr2
  · rw [e01, cnt_cg (f := m 284) (g := m 285) _ (fun r hr2 => ⟨f1 r (by omega), f2 r (by omega)⟩)]
    exact p3 p
theorem MB_of {μ m2 m3 : Mem} (hB : MB μ) (hV : VRm m2) (hF : FLm m2 m3) (h266 : m2 266 = μ 266) (h268 : m2 268 = μ 268) (h269 : m2 269 = μ 269) (h270 : m2 270 = μ 270) (h271 : m2 271 = μ 271) (h272 : m2 272 = μ 272) (h16 : m2 256 16 = μ 256 16) : MB m3 := by
  obtain ⟨b0, b1, b2, b3, b4, b5, b6, b7⟩ := hB
  obtain ⟨f1, f2, f3, f4, f5, f6⟩ := hF
  obtain ⟨v1, v2, v3, v4⟩ := hV
  have s5 : ∀ p : Nat, 0 ≤ m3 266 p ∧ m3 266 p ≤ 5 := by
    intro p
    by_cases hp : p < 9
    · rw [f4.1 p hp]
      exact ⟨(cnt_mono _ _ (Nat.le_refl _)).1, v4 _⟩
    · rw [f5 p (by omega), h266]; exact b1 p
  refine ⟨by rw [f1 256 (by decide)]; exact v1, s5, fun p => ?_, fun p => ?_, f3.1, fun j => ?_, fun j => ?_, ?_⟩
  · rw [f1 270 (by decide), h270]; exact b2 p
  · rw [f1 271 (by decide), h271]; exact b3 p
  · by_cases hj : j < 81
    · rw [f6.1 j hj]
      split
      · unfold AR
        split
        · decide
        · have := s5 (j / 9)
          have := mAr_rg (f := m2 259) (g := m2 260) (l := m2 261) (D := m3 268) (Q := m3 267) (p := ((j / 9 : Nat) : Int)) (t := ((j % 9 : Nat) : Int)) (m3 266 (j / 9)).toNat (-1) (by decide) (by omega)
          exact ⟨by omega, by omega⟩
      · decide
    · rw [f6.2 j (by omega), h269]; exact b5 j
  · rw [f1 272 (by decide), h272]; exact b6 j
  · rw [f1 256 (by decide), h16]; exact b7

section
variable {X : ZX}
set_option maxRecDepth 20000 in
theorem l_mparse {R : Int × Mem} (hK : ∀ y2, V X mX12_land 46 [vr 256, vi R.1, y2] [] R.2) : ∀ (n : Nat) (f : Int) (y2 : AV) (ν : Mem), (0 ≤ f ∧ f ≤ 4) → (f = 0 → PRI ν ∧ ν 256 18 - ν 256 20 < n) → (mrL n f ν = R) → V X mX12_land 27 [vr 256, vi f, y2] [] ν := by
  intro n
  induction n with
  | zero =>
    intro f y2 ν hf hp hR
    refine V_iloadn (pc := 27) dX12_land_27 rfl ?_
    refine V_if_ne (pc := 28) (tgt := 46) dX12_land_28 (by decide) (by omega) (fun h28 => ?_) (fun h28 => ?_)
    · subst hR
      exact hK y2
    · have hp2 := hp (by omega)
      have x3 := hp2.1.1.1.2.2
      exfalso
      omega
  | succ n ih =>
    intro f y2 ν hf hp hR
    refine V_iloadn (pc := 27) dX12_land_27 rfl ?_
    refine V_if_ne (pc := 28) (tgt := 46) dX12_land_28 (by decide) (by omega) (fun h28 => ?_) (fun h28 => ?_)
    · first
        | (rw [mrL_s, if_pos (by omega)] at hR
           subst hR
           exact hK y2)
        | (rw [mrL_s, if_neg (by omega), if_pos (by omega)] at hR
           obtain rfl : f = 0 := by omega
           subst hR
           exact hK y2)
    · have hp2 := hp (by omega)
      have hh := PRI_he hp2.1
      have x3 := hp2.1.1.1.2.2
      have s0 := sgm_r hp2.1.1.1 (hB ν)
      have q1 := hB_rg hp2.1.1.1
      have hf2 := tkC_f hh.1
      refine V_aloadn (pc := 31) dX12_land_31 rfl ?_
      refine V_cv0 (pc := 32) dX12_land_32 kX12_141 zk_256 (by decide) (Nat.le_of_ble_eq_true rfl) (r_here hp2.1.1.1) rfl ?_
      refine V_if_lt (pc := 35) (tgt := 46) dX12_land_35 (by decide) (by omega) (fun h35 => ?_) (fun h35 => ?_)
      · first
          | (rw [mrL_s, if_pos (by omega)] at hR
             subst hR
             exact hK y2)
          | (rw [mrL_s, if_neg (by omega), if_pos (by omega)] at hR
             obtain rfl : f = 0 := by omega
             subst hR
             exact hK y2)
      · refine V_aloadn (pc := 38) dX12_land_38 rfl ?_
        refine V_cv0 (pc := 39) dX12_land_39 kX12_215 zk_256 (by decide) (Nat.le_of_ble_eq_true rfl) (r_takeClause hh.1) rfl ?_
        refine V_istore_1 (pc := 42) dX12_land_42 (by decide) rfl ?_
        refine V_goto (pc := 43) (tgt := 27) dX12_land_43 (by decide) ?_
        refine ih _ _ _ hf2 (fun q2 => ?_) (by rw [← hR, mrL_s, if_neg (by omega), if_neg (by omega)])
        have g := tkC_ok hh q2
        refine ⟨g.1, ?_⟩
        rw [g.2.2, heM_j (by decide)]
        have g2 := g.2.1
        rw [heM_20] at g2
        omega

set_option maxRecDepth 20000 in
theorem l_cpR {μ : Mem} {f : Int} (hK : ∀ k ν, CPk 259 284 14 μ ν → V X mX12_land 134 [vr 256, vi f, vi k] [] ν) : ∀ (n : Nat) (k : Int) (ν : Mem), (k + n = 14) → (0 ≤ k) → (CPk 259 284 k μ ν) → V X mX12_land 86 [vr 256, vi f, vi k] [] ν := by
  intro n
  induction n with
  | zero =>
    intro k ν h1 h0 h
    refine V_iloadn (pc := 86) dX12_land_86 rfl ?_
    refine V_bipush (pc := 87) dX12_land_87 (by decide +kernel) ?_
    refine V_icmp_ge (pc := 89) (tgt := 134) dX12_land_89 (by decide) (by omega) (by decide) (fun h89 => ?_) (fun h89 => ?_)
    · obtain rfl : k = 14 := by omega
      exact hK _ ν h
    · exfalso; omega
  | succ n ih =>
    intro k ν h1 h0 h
    refine V_iloadn (pc := 86) dX12_land_86 rfl ?_
    refine V_bipush (pc := 87) dX12_land_87 (by decide +kernel) ?_
    refine V_icmp_ge (pc := 89) (tgt := 134) dX12_land_89 (by decide) (by omega) (by decide) (fun h89 => ?_) (fun h89 => ?_)
    · exfalso; omega
    · refine V_aloadn (pc := 92) dX12_land_92 rfl ?_
      refine V_getr (pc := 93) dX12_land_93 fX12_7 zk_256 zr_256_2 ?_
      refine V_iloadn (pc := 96) dX12_land_96 rfl ?_
      refine V_aloadn (pc := 97) dX12_land_97 rfl ?_
      refine V_getr (pc := 98) dX12_land_98 fX12_56 zk_256 zr_256_27 ?_
      refine V_iloadn (pc := 101) dX12_land_101 rfl ?_
      refine V_iald (pc := 102) dX12_land_102 zk_284 (by omega) (by omega) (by decide) ?_
      refine V_iast (pc := 103) dX12_land_103 zk_259 (by omega) (by omega) (by decide) ?_
      refine V_aloadn (pc := 104) dX12_land_104 rfl ?_
      refine V_getr (pc := 105) dX12_land_105 fX12_13 zk_256 zr_256_3 ?_
      refine V_iloadn (pc := 108) dX12_land_108 rfl ?_
      refine V_aloadn (pc := 109) dX12_land_109 rfl ?_
      refine V_getr (pc := 110) dX12_land_110 fX12_59 zk_256 zr_256_28 ?_
      refine V_iloadn (pc := 113) dX12_land_113 rfl ?_
      refine V_iald (pc := 114) dX12_land_114 zk_285 (by omega) (by omega) (by decide) ?_
      rw [mu_c (by decide : (285 : Nat) ≠ 259)]
      refine V_iast (pc := 115) dX12_land_115 zk_260 (by omega) (by omega) (by decide) ?_
      refine V_aloadn (pc := 116) dX12_land_116 rfl ?_
      refine V_getr (pc := 117) dX12_land_117 fX12_16 zk_256 zr_256_4 ?_
      refine V_iloadn (pc := 120) dX12_land_120 rfl ?_
      refine V_aloadn (pc := 121) dX12_land_121 rfl ?_
      refine V_getr (pc := 122) dX12_land_122 fX12_62 zk_256 zr_256_29 ?_
      refine V_iloadn (pc := 125) dX12_land_125 rfl ?_
      refine V_iald (pc := 126) dX12_land_126 zk_286 (by omega) (by omega) (by decide) ?_
      rw [mu_c (by decide : (286 : Nat) ≠ 260)]
      rw [mu_c (by decide : (286 : Nat) ≠ 259)]
      refine V_iast (pc := 127) dX12_land_127 zk_261 (by omega) (by omega) (by decide) ?_
      refine V_iinc_2 (pc := 128) dX12_land_128 (by decide) rfl ?_
      refine V_goto (pc := 131) (tgt := 86) dX12_land_131 (by decide) ?_
      exact ih (k + 1) _ (by omega) (by omega) (CPk_s (by decide) h0 h rfl rfl rfl)

set_option maxRecDepth 20000 in
theorem l_cpT {μ : Mem} {f : Int} (hK : ∀ k ν, CPk 263 288 20 μ ν → V X mX12_land 184 [vr 256, vi f, vi k] [] ν) : ∀ (n : Nat) (k : Int) (ν : Mem), (k + n = 20) → (0 ≤ k) → (CPk 263 288 k μ ν) → V X mX12_land 136 [vr 256, vi f, vi k] [] ν := by
  intro n
  induction n with
  | zero =>
    intro k ν h1 h0 h
    refine V_iloadn (pc := 136) dX12_land_136 rfl ?_
    refine V_bipush (pc := 137) dX12_land_137 (by decide +kernel) ?_
    refine V_icmp_ge (pc := 139) (tgt := 184) dX12_land_139 (by decide) (by omega) (by decide) (fun h139 => ?_) (fun h139 => ?_)
    · obtain rfl : k = 20 := by omega
      exact hK _ ν h
    · exfalso; omega
  | succ n ih =>
    intro k ν h1 h0 h
    refine V_iloadn (pc := 136) dX12_land_136 rfl ?_
    refine V_bipush (pc := 137) dX12_land_137 (by decide +kernel) ?_
    refine V_icmp_ge (pc := 139) (tgt := 184) dX12_land_139 (by decide) (by omega) (by decide) (fun h139 => ?_) (fun h139 => ?_)
    · exfalso; omega
    · refine V_aloadn (pc := 142) dX12_land_142 rfl ?_
      refine V_getr (pc := 143) dX12_land_143 fX12_19 zk_256 zr_256_6 ?_
      refine V_iloadn (pc := 146) dX12_land_146 rfl ?_
      refine V_aloadn (pc := 147) dX12_land_147 rfl ?_
      refine V_getr (pc := 148) dX12_land_148 fX12_65 zk_256 zr_256_31 ?_
      refine V_iloadn (pc := 151) dX12_land_151 rfl ?_
      refine V_iald (pc := 152) dX12_land_152 zk_288 (by omega) (by omega) (by decide) ?_
      refine V_iast (pc := 153) dX12_land_153 zk_263 (by omega) (by omega) (by decide) ?_
      refine V_aloadn (pc := 154) dX12_land_154 rfl ?_
      refine V_getr (pc := 155) dX12_land_155 fX12_22 zk_256 zr_256_7 ?_
      refine V_iloadn (pc := 158) dX12_land_158 rfl ?_
      refine V_aloadn (pc := 159) dX12_land_159 rfl ?_
      refine V_getr (pc := 160) dX12_land_160 fX12_68 zk_256 zr_256_32 ?_
      refine V_iloadn (pc := 163) dX12_land_163 rfl ?_
      refine V_iald (pc := 164) dX12_land_164 zk_289 (by omega) (by omega) (by decide) ?_
      rw [mu_c (by decide : (289 : Nat) ≠ 263)]
      refine V_iast (pc := 165) dX12_land_165 zk_264 (by omega) (by omega) (by decide) ?_
      refine V_aloadn (pc := 166) dX12_land_166 rfl ?_
      refine V_getr (pc := 167) dX12_land_167 fX12_25 zk_256 zr_256_8 ?_
      refine V_iloadn (pc := 170) dX12_land_170 rfl ?_
      refine V_aloadn (pc := 171) dX12_land_171 rfl ?_
      refine V_getr (pc := 172) dX12_land_172 fX12_71 zk_256 zr_256_33 ?_
      refine V_iloadn (pc := 175) dX12_land_175 rfl ?_
      refine V_iald (pc := 176) dX12_land_176 zk_290 (by omega) (by omega) (by decide) ?_
      rw [mu_c (by decide : (290 : Nat) ≠ 264)]
      rw [mu_c (by decide : (290 : Nat) ≠ 263)]
      refine V_iast (pc := 177) dX12_land_177 zk_265 (by omega) (by omega) (by decide) ?_
      refine V_iinc_2 (pc := 178) dX12_land_178 (by decide) rfl ?_
      refine V_goto (pc := 181) (tgt := 136) dX12_land_181 (by decide) ?_
      exact ih (k + 1) _ (by omega) (by omega) (CPk_s (by decide) h0 h rfl rfl rfl)

end

set_option maxRecDepth 20000 in
theorem r_land {μ : Mem} (hT : MT μ) (hB : MB μ) : SP mX12_land [vr 256] μ (fun w m => mLand μ w m) := by
  refine SP_intro (ls := [vr 256, un, un]) (by decide +kernel) rfl rfl (Nat.le_of_ble_eq_true rfl) rfl (fun X hX => ?_)
  refine V_aloadn (pc := 0) dX12_land_0 rfl ?_
  refine V_iconst (pc := 1) dX12_land_1 ?_
  refine V_puti (pc := 2) dX12_land_2 fX12_52 zk_256 ?_
  refine V_aloadn (pc := 5) dX12_land_5 rfl ?_
  refine V_iconst (pc := 6) dX12_land_6 ?_
  refine V_puti (pc := 7) dX12_land_7 fX12_138 zk_256 ?_
  refine V_aloadn (pc := 10) dX12_land_10 rfl ?_
  refine V_iconst (pc := 11) dX12_land_11 ?_
  refine V_puti (pc := 12) dX12_land_12 fX12_184 zk_256 ?_
  refine V_aloadn (pc := 15) dX12_land_15 rfl ?_
  refine V_iconst (pc := 16) dX12_land_16 ?_
  refine V_puti (pc := 17) dX12_land_17 fX12_181 zk_256 ?_
  refine V_aloadn (pc := 20) dX12_land_20 rfl ?_
  refine V_iconst (pc := 21) dX12_land_21 ?_
  refine V_puti (pc := 22) dX12_land_22 fX12_195 zk_256 ?_
  refine V_iconst (pc := 25) dX12_land_25 ?_
  refine V_istore_1 (pc := 26) dX12_land_26 (by decide) rfl ?_
  have hR := mlR_r hT
  refine l_mparse (R := mlR μ) (fun y2 => ?_) 402 0 _ (ml0 μ) (by decide) (fun _ => ⟨PRI_ml0 hT, by rw [ml0_20, ml0_j (by decide)]; have := hT.1; omega⟩) rfl
  refine V_aloadn (pc := 46) dX12_land_46 rfl ?_
  refine V_iconst (pc := 47) dX12_land_47 ?_
  refine V_puti (pc := 48) dX12_land_48 fX12_132 zk_256 ?_
  refine V_iloadn (pc := 51) dX12_land_51 rfl ?_
  refine V_if_le (pc := 52) (tgt := 60) dX12_land_52 (by decide) (by omega) (fun h52 => ?_) (fun h52 => ?_)
  · have h0 : (mlR μ).1 = 0 := by omega
    have hP := hR.2.1 h0
    have hfp := hR.2.2
    refine V_aloadn (pc := 60) dX12_land_60 rfl ?_
    refine V_aloadn (pc := 61) dX12_land_61 rfl ?_
    refine V_geti (r := 0) (pc := 62) dX12_land_62 fX12_184 zk_256 ?_
    rw [mu_j (by decide : (25 : Nat) ≠ 18)]
    skip
    refine V_puti (pc := 65) dX12_land_65 fX12_118 zk_256 ?_
    refine V_aloadn (pc := 68) dX12_land_68 rfl ?_
    refine V_aloadn (pc := 69) dX12_land_69 rfl ?_
    refine V_geti (r := 0) (pc := 70) dX12_land_70 fX12_181 zk_256 ?_
    rw [mu_j (by decide : (26 : Nat) ≠ 0)]
    rw [mu_j (by decide : (26 : Nat) ≠ 18)]
    refine V_puti (pc := 73) dX12_land_73 fX12_218 zk_256 ?_
    refine V_aloadn (pc := 76) dX12_land_76 rfl ?_
    refine V_aloadn (pc := 77) dX12_land_77 rfl ?_
    refine V_geti (r := 0) (pc := 78) dX12_land_78 fX12_195 zk_256 ?_
    rw [mu_j (by decide : (30 : Nat) ≠ 1)]
    rw [mu_j (by decide : (30 : Nat) ≠ 0)]
    rw [mu_j (by decide : (30 : Nat) ≠ 18)]
    refine V_puti (pc := 81) dX12_land_81 fX12_221 zk_256 ?_
    refine V_iconst (pc := 84) dX12_land_84 ?_
    refine V_istore_2 (pc := 85) dX12_land_85 (by decide) rfl ?_
    refine l_cpR (μ := ml1 (mlR μ).2) (fun k1 m1 c1 => ?_) 14 0 _ (by omega) (by omega) (CPk_0 259 284 (ml1 (mlR μ).2))
    refine V_iconst (pc := 134) dX12_land_134 ?_
    refine V_istore_2 (pc := 135) dX12_land_135 (by decide) rfl ?_
    refine l_cpT (μ := m1) (fun k2 m2 c2 => ?_) 20 0 _ (by omega) (by omega) (CPk_0 263 288 m1)
    have hV := VR_of hP c1 c2
    have g : ∀ c, c ≠ 256 → (c < 259 ∨ 265 < c ∨ c = 262) → c < 284 → m2 c = μ c := fun c q1 q2 q3 => by rw [c2.1 c (by omega) (by omega) (by omega), c1.1 c (by omega) (by omega) (by omega), ml1_c q1, hfp.1 c q1 (by omega)]
    have g16 : m2 256 16 = μ 256 16 := by
      rw [c2.1 256 (by decide) (by decide) (by decide), c1.1 256 (by decide) (by decide) (by decide)]
      unfold ml1
      rw [mu_j (by decide), mu_j (by decide), mu_j (by decide), mu_j (by decide), hfp.2 16 (by decide)]
    have v1 := hV.1
    have hsh := ishl_1r (k := m2 256 0) (by omega)
    refine V_aloadn (pc := 184) dX12_land_184 rfl ?_
    refine V_cq0 (pc := 185) dX12_land_185 kX12_224 zk_256 (by decide) (Nat.le_of_ble_eq_true rfl) (r_findLand hV (fun x => by rw [g 268 (by decide) (by decide) (by decide)]; exact hB.2.2.2.2.1 x)) ?_
    intro v m3 hv
    obtain ⟨rfl, hF⟩ := hv
    have hB3 := MB_of hB hV hF (g 266 (by decide) (by decide) (by decide)) (g 268 (by decide) (by decide) (by decide)) (g 269 (by decide) (by decide) (by decide)) (g 270 (by decide) (by decide) (by decide)) (g 271 (by decide) (by decide) (by decide)) (g 272 (by decide) (by decide) (by decide)) g16
    have e0 : m3 256 = m2 256 := hF.1 256 (by decide)
    refine V_aloadn (pc := 188) dX12_land_188 rfl ?_
    refine V_iconst (pc := 189) dX12_land_189 ?_
    refine V_aloadn (pc := 190) dX12_land_190 rfl ?_
    refine V_geti (r := 0) (pc := 191) dX12_land_191 fX12_118 zk_256 ?_
    rw [e0]
    refine V_ishl (pc := 194) dX12_land_194 ?_
    refine V_iconst (pc := 195) dX12_land_195 ?_
    refine V_isub (pc := 196) dX12_land_196 ?_
    refine V_cv1 (pc := 197) dX12_land_197 kX12_227 zk_256 (by decide) (Nat.le_of_ble_eq_true rfl) ((by rw [← e0]; exact r_setRight hB3 (by rw [e0]; omega))) rfl ?_
    refine V_istore_2 (pc := 200) dX12_land_200 (by decide) rfl ?_
    refine V_aloadn (pc := 201) dX12_land_201 rfl ?_
    refine V_iconst (pc := 202) dX12_land_202 ?_
    refine V_puti (pc := 203) dX12_land_203 fX12_230 zk_256 ?_
    refine V_aloadn (pc := 206) dX12_land_206 rfl ?_
    refine V_iconst (pc := 207) dX12_land_207 ?_
    refine V_puti (pc := 208) dX12_land_208 fX12_233 zk_256 ?_
    refine V_aloadn (pc := 211) dX12_land_211 rfl ?_
    refine V_getr (pc := 212) dX12_land_212 fX12_114 zk_256 zr_256_55 ?_
    refine V_iconst (pc := 215) dX12_land_215 ?_
    refine V_iconst (pc := 216) dX12_land_216 ?_
    refine V_zast (pc := 217) dX12_land_217 zk_312 (by decide) (by decide) (by decide) (by first | exact Or.inl rfl | exact Or.inr rfl) ?_
    refine V_aloadn (pc := 218) dX12_land_218 rfl ?_
    refine V_getr (pc := 219) dX12_land_219 fX12_114 zk_256 zr_256_55 ?_
    refine V_iconst (pc := 222) dX12_land_222 ?_
    refine V_iconst (pc := 223) dX12_land_223 ?_
    refine V_zast (pc := 224) dX12_land_224 zk_312 (by decide) (by decide) (by decide) (by first | exact Or.inl rfl | exact Or.inr rfl) ?_
    refine V_aloadn (pc := 225) dX12_land_225 rfl ?_
    refine V_geti (r := 0) (pc := 226) dX12_land_226 fX12_118 zk_256 ?_
    rw [mu_c (by decide : (256 : Nat) ≠ 312)]
    rw [mu_c (by decide : (256 : Nat) ≠ 312)]
    rw [mu_j (by decide : (0 : Nat) ≠ 49)]
    rw [mu_j (by decide : (0 : Nat) ≠ 41)]
    refine V_iret hX dX12_land_229 rfl ?_
    exact ⟨fun q => absurd h0 q, fun _ => ⟨m1, m2, m3, c1, c2, hV, hF, hB3, congrArg vi (by rw [mrt_c (by decide) (by decide) (by decide), e0]), (by rw [← e0]; rfl)⟩⟩
  · refine V_bipush (pc := 55) dX12_land_55 (by decide +kernel) ?_
    refine V_iloadn (pc := 57) dX12_land_57 rfl ?_
    refine V_isub (pc := 58) dX12_land_58 ?_
    refine V_iret hX dX12_land_59 rfl ?_
    exact ⟨fun _ => ⟨rfl, rfl⟩, fun q => by omega⟩

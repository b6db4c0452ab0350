theorem lcm_lt (a b : Int) : lcm a b < 0 ↔ a < b := by unfold lcm; split <;> (try split) <;> omega
theorem lcm_gt (a b : Int) : 0 < lcm a b ↔ b < a := by unfold lcm; split <;> (try split) <;> omega
theorem lcm_rg (a b : Int) : inR (lcm a b) := by unfold lcm; split <;> (try split) <;> decide
/-! THE REFERENCE. Its cells beside the class's cells: -/
/-- a land that is one: roads join two places, sides are of its roads, arms are sides, travels go from place to place -/
def VL (μ : Mem) : Prop :=
  (∀ r : Nat, (r : Int) < μ 32 1 → (0 ≤ μ (32 + 4) r ∧ μ (32 + 4) r < μ 32 0) ∧ (0 ≤ μ (32 + 5) r ∧ μ (32 + 5) r < μ 32 0) ∧ ¬ μ (32 + 4) r = μ (32 + 5) r ∧ (1 ≤ μ (32 + 6) r ∧ μ (32 + 6) r ≤ 99)) ∧
  (∀ p i : Nat, (p : Int) < μ 32 0 → (i : Int) < μ (32 + 10) p → (0 ≤ μ (32 + 11) (p * 5 + i) ∧ μ (32 + 11) (p * 5 + i) < μ 32 1) ∧ (μ (32 + 4) (μ (32 + 11) (p * 5 + i)).toNat = p ∨ μ (32 + 5) (μ (32 + 11) (p * 5 + i)).toNat = p)) ∧
  (∀ p t : Nat, (p : Int) < μ 32 0 → (t : Int) < μ 32 0 → -1 ≤ μ (32 + 13) (p * 9 + t) ∧ μ (32 + 13) (p * 9 + t) < μ (32 + 10) p ∧ -1 ≤ μ (32 + 12) (p * 9 + t) ∧ μ (32 + 12) (p * 9 + t) < 1000000) ∧
  (∀ g : Nat, (g : Int) < μ 32 2 → (0 ≤ μ (32 + 7) g ∧ μ (32 + 7) g < μ 32 0) ∧ (0 ≤ μ (32 + 8) g ∧ μ (32 + 8) g < μ 32 0) ∧ (1 ≤ μ (32 + 9) g ∧ μ (32 + 9) g ≤ 99))
/-- the reference's land and posts are the class's -/
def RM (μ : Mem) : Prop :=
  (μ 256 0 = μ 32 0 ∧ μ 256 1 = μ 32 1 ∧ μ 256 5 = μ 32 2) ∧
  (∀ r : Nat, (r : Int) < μ 32 1 → μ 259 r = μ (32 + 4) r ∧ μ 260 r = μ (32 + 5) r ∧ μ 261 r = μ (32 + 6) r) ∧
  (∀ g : Nat, (g : Int) < μ 32 2 → μ 263 g = μ (32 + 7) g ∧ μ 264 g = μ (32 + 8) g ∧ μ 265 g = μ (32 + 9) g) ∧
  (∀ p : Nat, (p : Int) < μ 32 0 → μ 266 p = μ (32 + 10) p ∧ ∀ i : Nat, (i : Int) < μ (32 + 10) p → μ 267 (p * 5 + i) = μ (32 + 11) (p * 5 + i)) ∧
  (∀ p t : Nat, (p : Int) < μ 32 0 → (t : Int) < μ 32 0 → μ 269 (p * 9 + t) = μ (32 + 13) (p * 9 + t) ∧ μ 268 (p * 9 + t) = (if μ (32 + 12) (p * 9 + t) = -1 then 1000000 else μ (32 + 12) (p * 9 + t))) ∧
  (∀ p : Nat, (p : Int) < μ 32 0 → μ 270 p = μ (80 + 2) p ∧ μ 271 p = μ (80 + 3) p) ∧
  (∀ p t : Nat, (p : Int) < μ 32 0 → (t : Int) < μ 32 0 → ¬ μ (32 + 13) (p * 9 + t) = -1 → μ 272 (p * 9 + t) = μ (80 + 4) (p * 9 + t))
/-- memories that agree on the class and on the reference's land, posts and seed -/
def MC (μ ν : Mem) : Prop := (∀ k, k < 256 → ν k = μ k) ∧ (∀ k, 257 ≤ k → k ≤ 273 → ν k = μ k) ∧ ∀ j, j < 17 → ν 256 j = μ 256 j
theorem MC.rf (μ : Mem) : MC μ μ := ⟨fun _ _ => rfl, fun _ _ _ => rfl, fun _ _ => rfl⟩
theorem MC.tr {μ ν ξ : Mem} (h : MC μ ν) (h2 : MC ν ξ) : MC μ ξ := ⟨fun k hk => (h2.1 k hk).trans (h.1 k hk), fun k a b => (h2.2.1 k a b).trans (h.2.1 k a b), fun j hj => (h2.2.2 j hj).trans (h.2.2 j hj)⟩
theorem MC.ag {μ ν : Mem} (h : MC μ ν) : Ag μ ν := fun k hk => h.1 k (by omega)
theorem MC.mk1 {μ ν : Mem} (h : MC μ ν) {k j : Nat} {v : Int} (hk : 274 ≤ k) : MC μ (mu ν k j v) := ⟨fun a ha => (mu_ne (by omega)).trans (h.1 a ha), fun a h1 h2 => (mu_ne (by omega)).trans (h.2.1 a h1 h2), fun i hi => by rw [mu_c (by omega)]; exact h.2.2 i hi⟩
theorem MC.mk2 {μ ν : Mem} (h : MC μ ν) {j : Nat} {v : Int} (hj : 17 ≤ j) : MC μ (mu ν 256 j v) := ⟨fun a ha => (mu_ne (by omega)).trans (h.1 a ha), fun a h1 h2 => (mu_ne (by omega)).trans (h.2.1 a h1 h2), fun i hi => by rw [mu_j (by omega)]; exact h.2.2 i hi⟩
theorem VL_mc {μ ν : Mem} (h : MC μ ν) (hV : VL μ) : VL ν := by
  unfold VL
  simp only [h.1 32 (by decide), h.1 (32 + 4) (by decide), h.1 (32 + 5) (by decide), h.1 (32 + 6) (by decide), h.1 (32 + 7) (by decide), h.1 (32 + 8) (by decide), h.1 (32 + 9) (by decide), h.1 (32 + 10) (by decide), h.1 (32 + 11) (by decide), h.1 (32 + 12) (by decide), h.1 (32 + 13) (by decide)]
  exact hV
theorem RM_mc {μ ν : Mem} (h : MC μ ν) (hR : RM μ) : RM ν := by
  unfold RM
  simp only [h.1 32 (by decide), h.1 (32 + 4) (by decide), h.1 (32 + 5) (by decide), h.1 (32 + 6) (by decide), h.1 (32 + 7) (by decide), h.1 (32 + 8) (by decide), h.1 (32 + 9) (by decide), h.1 (32 + 10) (by decide), h.1 (32 + 11) (by decide), h.1 (32 + 12) (by decide), h.1 (32 + 13) (by decide), h.1 (80 + 2) (by decide), h.1 (80 + 3) (by decide), h.1 (80 + 4) (by decide), h.2.1 259 (by decide) (by decide), h.2.1 260 (by decide) (by decide), h.2.1 261 (by decide) (by decide), h.2.1 263 (by decide) (by decide), h.2.1 264 (by decide) (by decide), h.2.1 265 (by decide) (by decide), h.2.1 266 (by decide) (by decide), h.2.1 267 (by decide) (by decide), h.2.1 268 (by decide) (by decide), h.2.1 269 (by decide) (by decide), h.2.1 270 (by decide) (by decide), h.2.1 271 (by decide) (by decide), h.2.1 272 (by decide) (by decide), h.2.2 0 (by decide), h.2.2 1 (by decide), h.2.2 5 (by decide)]
  exact hR
theorem hb_01 (s k : Int) : hb s k = 0 ∨ hb s k = 1 := by
  unfold hb iand
  obtain ⟨j, hj, e⟩ := pk_andE (Int32.ofInt (ishr s k)) (m := Int32.ofInt 1) 1 (by decide)
  rw [e]
  have h2 : j = 0 ∨ j = 1 := by omega
  rcases h2 with rfl | rfl <;> decide
theorem In_iff {s k : Int} (hk : 0 ≤ k ∧ k < 31) : In s k ↔ hb s k = 1 := by
  have := hb_01 s k
  unfold In
  omega
/-- bounds for both sides -/
def GI (μ : Mem) : Prop := LOK μ 32 ∧ POK μ 80 ∧ VL μ ∧ RM μ
theorem GI_mc {μ ν : Mem} (h : MC μ ν) (g : GI μ) : GI ν := ⟨LOK_ag h.ag g.1, POK_ag h.ag g.2.1, VL_mc h g.2.2.1, RM_mc h g.2.2.2⟩

set_option maxRecDepth 20000 in
theorem r_in {μ : Mem} {v a b : Int} (hv : inL v) (ha : inL a) (hb : inL b) : SP mX12_in [vl v, vl a, vl b] μ (fun w m => w = vi (bi (a ≤ v ∧ v ≤ b)) ∧ m = μ) := by
  refine SP_intro (ls := [vl v, un, vl a, un, vl b, un]) (by decide +kernel) rfl rfl (Nat.le_of_ble_eq_true rfl) rfl (fun X hX => ?_)
  refine V_lloadn (pc := 0) dX12_in_0 rfl ?_
  refine V_lloadn (pc := 1) dX12_in_1 rfl ?_
  refine V_lcmp (pc := 2) dX12_in_2 (by omega) (by omega) ?_
  have hl1 := lcm_lt v a
  have hr1 : inR (lcm v a) := lcm_rg v a
  refine V_if_lt (pc := 3) (tgt := 17) dX12_in_3 (by decide) (by omega) (fun h3 => ?_) (fun h3 => ?_)
  · refine V_iconst (pc := 17) dX12_in_17 ?_
    refine V_zret hX dX12_in_18 rfl (by first | exact Or.inl rfl | exact Or.inr rfl | exact bi_01 _) ?_
    exact ⟨congrArg vi (by first | (exfalso; omega) | rw [bi_pos (by omega)] | rw [bi_neg (by omega)]), rfl⟩
  · refine V_lloadn (pc := 6) dX12_in_6 rfl ?_
    refine V_lload (pc := 7) dX12_in_7 rfl ?_
    refine V_lcmp (pc := 9) dX12_in_9 (by omega) (by omega) ?_
    have hl2 := lcm_gt v b
    have hr2 : inR (lcm v b) := lcm_rg v b
    refine V_if_gt (pc := 10) (tgt := 17) dX12_in_10 (by decide) (by omega) (fun h10 => ?_) (fun h10 => ?_)
    · refine V_iconst (pc := 17) dX12_in_17 ?_
      refine V_zret hX dX12_in_18 rfl (by first | exact Or.inl rfl | exact Or.inr rfl | exact bi_01 _) ?_
      exact ⟨congrArg vi (by first | (exfalso; omega) | rw [bi_pos (by omega)] | rw [bi_neg (by omega)]), rfl⟩
    · refine V_iconst (pc := 13) dX12_in_13 ?_
      refine V_goto (pc := 14) (tgt := 18) dX12_in_14 (by decide) ?_
      refine V_zret hX dX12_in_18 rfl (by first | exact Or.inl rfl | exact Or.inr rfl | exact bi_01 _) ?_
      exact ⟨congrArg vi (by first | (exfalso; omega) | rw [bi_pos (by omega)] | rw [bi_neg (by omega)]), rfl⟩

set_option maxRecDepth 20000 in
theorem r_has {μ : Mem} {s k : Int} : SP mX12_has [vi s, vi k] μ (fun w m => w = vi (bi (hb s k = 1)) ∧ m = μ) := by
  refine SP_intro (ls := [vi s, vi k]) (by decide +kernel) rfl rfl (Nat.le_of_ble_eq_true rfl) rfl (fun X hX => ?_)
  refine V_iloadn (pc := 0) dX12_has_0 rfl ?_
  refine V_iloadn (pc := 1) dX12_has_1 rfl ?_
  refine V_ishr (pc := 2) dX12_has_2 ?_
  refine V_iconst (pc := 3) dX12_has_3 ?_
  refine V_iand (pc := 4) dX12_has_4 ?_
  change V X mX12_has (4 + 1) [vi s, vi k] [vi (hb s k)] μ
  have hg : inR (hb s k) := zi_rg _
  refine V_iconst (pc := 5) dX12_has_5 ?_
  refine V_icmp_ne (pc := 6) (tgt := 13) dX12_has_6 (by decide) (by omega) (by decide) (fun h6 => ?_) (fun h6 => ?_)
  · refine V_iconst (pc := 13) dX12_has_13 ?_
    refine V_zret hX dX12_has_14 rfl (by first | exact Or.inl rfl | exact Or.inr rfl | exact bi_01 _) ?_
    exact ⟨congrArg vi (by first | (exfalso; omega) | rw [bi_pos (by omega)] | rw [bi_neg (by omega)]), rfl⟩
  · refine V_iconst (pc := 9) dX12_has_9 ?_
    refine V_goto (pc := 10) (tgt := 14) dX12_has_10 (by decide) ?_
    refine V_zret hX dX12_has_14 rfl (by first | exact Or.inl rfl | exact Or.inr rfl | exact bi_01 _) ?_
    exact ⟨congrArg vi (by first | (exfalso; omega) | rw [bi_pos (by omega)] | rw [bi_neg (by omega)]), rfl⟩

set_option maxRecDepth 20000 in
theorem l_bits {μ : Mem} {s : Int} {R : Int} {X : ZX} (hX : isM X (fun w m => w = vi R ∧ m = μ)) : ∀ (n : Nat) (acc k : Int), (k + n = 9) → (0 ≤ k) → (bts s n k acc = R) → V X mX12_bits 4 [vi s, vi acc, vi k] [] μ := by
  intro n
  induction n with
  | zero =>
    intro acc k h1 h2 hR
    refine V_iloadn (pc := 4) dX12_bits_4 rfl ?_
    refine V_bipush (pc := 5) dX12_bits_5 (by decide +kernel) ?_
    refine V_icmp_ge (pc := 7) (tgt := 24) dX12_bits_7 (by decide) (by omega) (by decide) (fun h7 => ?_) (fun h7 => ?_)
    · refine V_iloadn (pc := 24) dX12_bits_24 rfl ?_
      refine V_iret hX dX12_bits_25 rfl ?_
      exact ⟨congrArg vi hR, rfl⟩
    · exfalso; omega
  | succ n ih =>
    intro acc k h1 h2 hR
    refine V_iloadn (pc := 4) dX12_bits_4 rfl ?_
    refine V_bipush (pc := 5) dX12_bits_5 (by decide +kernel) ?_
    refine V_icmp_ge (pc := 7) (tgt := 24) dX12_bits_7 (by decide) (by omega) (by decide) (fun h7 => ?_) (fun h7 => ?_)
    · exfalso; omega
    · refine V_iloadn (pc := 10) dX12_bits_10 rfl ?_
      refine V_iloadn (pc := 11) dX12_bits_11 rfl ?_
      refine V_iloadn (pc := 12) dX12_bits_12 rfl ?_
      refine V_ishr (pc := 13) dX12_bits_13 ?_
      refine V_iconst (pc := 14) dX12_bits_14 ?_
      refine V_iand (pc := 15) dX12_bits_15 ?_
      refine V_iadd (pc := 16) dX12_bits_16 ?_
      refine V_istore_1 (pc := 17) dX12_bits_17 (by decide) rfl ?_
      refine V_iinc_2 (pc := 18) dX12_bits_18 (by decide) rfl ?_
      refine V_goto (pc := 21) (tgt := 4) dX12_bits_21 (by decide) ?_
      exact ih _ _ (by omega) (by omega) (by rw [← hR, bts_s]; rfl)

set_option maxRecDepth 20000 in
theorem r_bits {μ : Mem} {s : Int} : SP mX12_bits [vi s] μ (fun w m => w = vi (bitsF s) ∧ m = μ) := by
  refine SP_intro (ls := [vi s, un, un]) (by decide +kernel) rfl rfl (Nat.le_of_ble_eq_true rfl) rfl (fun X hX => ?_)
  refine V_iconst (pc := 0) dX12_bits_0 ?_
  refine V_istore_1 (pc := 1) dX12_bits_1 (by decide) rfl ?_
  refine V_iconst (pc := 2) dX12_bits_2 ?_
  refine V_istore_2 (pc := 3) dX12_bits_3 (by decide) rfl ?_
  exact l_bits hX 9 0 0 (by omega) (by omega) rfl

set_option maxRecDepth 20000 in
theorem r_isPlace {μ : Mem} (h0 : 0 ≤ μ 256 0 ∧ μ 256 0 ≤ 9) {p : Int} (hp : inR p) : SP mX12_isPlace [vr 256, vi p] μ (fun w m => w = vi (bi (0 ≤ p ∧ p < μ 256 0)) ∧ m = μ) := by
  refine SP_intro (ls := [vr 256, vi p]) (by decide +kernel) rfl rfl (Nat.le_of_ble_eq_true rfl) rfl (fun X hX => ?_)
  refine V_iloadn (pc := 0) dX12_isPlace_0 rfl ?_
  refine V_i2l (pc := 1) dX12_isPlace_1 (by omega) ?_
  refine V_lconst0 (pc := 2) dX12_isPlace_2 ?_
  refine V_aloadn (pc := 3) dX12_isPlace_3 rfl ?_
  refine V_geti (r := 0) (pc := 4) dX12_isPlace_4 fX12_118 zk_256 ?_
  refine V_iconst (pc := 7) dX12_isPlace_7 ?_
  refine V_isub (pc := 8) dX12_isPlace_8 ?_
  refine V_i2l (pc := 9) dX12_isPlace_9 (by omega) ?_
  refine V_cs3 (pc := 10) dX12_isPlace_10 kX12_121 (by decide) (Nat.le_of_ble_eq_true rfl) (r_in (by omega) (by omega) (by omega)) rfl ?_
  refine V_zret hX dX12_isPlace_13 rfl (bi_01 _) ?_
  exact ⟨congrArg vi (bi_cg (by omega)), rfl⟩

set_option maxRecDepth 20000 in
theorem r_areTwo {μ : Mem} (h0 : 0 ≤ μ 256 0 ∧ μ 256 0 ≤ 9) {p q : Int} (hp : inR p) (hq : inR q) : SP mX12_areTwo [vr 256, vi p, vi q] μ (fun w m => w = vi (bi ((0 ≤ p ∧ p < μ 256 0) ∧ 0 ≤ q ∧ q < μ 256 0)) ∧ m = μ) := by
  refine SP_intro (ls := [vr 256, vi p, vi q]) (by decide +kernel) rfl rfl (Nat.le_of_ble_eq_true rfl) rfl (fun X hX => ?_)
  refine V_aloadn (pc := 0) dX12_areTwo_0 rfl ?_
  refine V_iloadn (pc := 1) dX12_areTwo_1 rfl ?_
  refine V_cv1 (pc := 2) dX12_areTwo_2 kX12_125 zk_256 (by decide) (Nat.le_of_ble_eq_true rfl) (r_isPlace h0 (by omega)) rfl ?_
  refine V_ifeq_b (pc := 5) (tgt := 20) dX12_areTwo_5 (by decide) (fun h5 => ?_) (fun h5 => ?_)
  · refine V_iconst (pc := 20) dX12_areTwo_20 ?_
    refine V_zret hX dX12_areTwo_21 rfl (by first | exact Or.inl rfl | exact Or.inr rfl | exact bi_01 _) ?_
    exact ⟨congrArg vi (by first | (exfalso; omega) | rw [bi_pos (by omega)] | rw [bi_neg (by omega)]), rfl⟩
  · refine V_aloadn (pc := 8) dX12_areTwo_8 rfl ?_
    refine V_iloadn (pc := 9) dX12_areTwo_9 rfl ?_
    refine V_cv1 (pc := 10) dX12_areTwo_10 kX12_125 zk_256 (by decide) (Nat.le_of_ble_eq_true rfl) (r_isPlace h0 (by omega)) rfl ?_
    refine V_ifeq_b (pc := 13) (tgt := 20) dX12_areTwo_13 (by decide) (fun h13 => ?_) (fun h13 => ?_)
    · refine V_iconst (pc := 20) dX12_areTwo_20 ?_
      refine V_zret hX dX12_areTwo_21 rfl (by first | exact Or.inl rfl | exact Or.inr rfl | exact bi_01 _) ?_
      exact ⟨congrArg vi (by first | (exfalso; omega) | rw [bi_pos (by omega)] | rw [bi_neg (by omega)]), rfl⟩
    · refine V_iconst (pc := 16) dX12_areTwo_16 ?_
      refine V_goto (pc := 17) (tgt := 21) dX12_areTwo_17 (by decide) ?_
      refine V_zret hX dX12_areTwo_21 rfl (by first | exact Or.inl rfl | exact Or.inr rfl | exact bi_01 _) ?_
      exact ⟨congrArg vi (by first | (exfalso; omega) | rw [bi_pos (by omega)] | rw [bi_neg (by omega)]), rfl⟩

set_option maxRecDepth 20000 in
theorem r_isSet {μ : Mem} (h0 : 0 ≤ μ 256 0 ∧ μ 256 0 ≤ 9) {s : Int} (hs : inR s) : SP mX12_isSet [vr 256, vi s] μ (fun w m => w = vi (bi (0 ≤ s ∧ s < ishl 1 (μ 256 0))) ∧ m = μ) := by
  refine SP_intro (ls := [vr 256, vi s]) (by decide +kernel) rfl rfl (Nat.le_of_ble_eq_true rfl) rfl (fun X hX => ?_)
  have g := ishl_1r (k := μ 256 0) (by omega)
  refine V_iloadn (pc := 0) dX12_isSet_0 rfl ?_
  refine V_i2l (pc := 1) dX12_isSet_1 (by omega) ?_
  refine V_lconst0 (pc := 2) dX12_isSet_2 ?_
  refine V_iconst (pc := 3) dX12_isSet_3 ?_
  refine V_aloadn (pc := 4) dX12_isSet_4 rfl ?_
  refine V_geti (r := 0) (pc := 5) dX12_isSet_5 fX12_118 zk_256 ?_
  refine V_ishl (pc := 8) dX12_isSet_8 ?_
  refine V_iconst (pc := 9) dX12_isSet_9 ?_
  refine V_isub (pc := 10) dX12_isSet_10 ?_
  refine V_i2l (pc := 11) dX12_isSet_11 (by omega) ?_
  refine V_cs3 (pc := 12) dX12_isSet_12 kX12_121 (by decide) (Nat.le_of_ble_eq_true rfl) (r_in (by omega) (by omega) (by omega)) rfl ?_
  refine V_zret hX dX12_isSet_15 rfl (bi_01 _) ?_
  exact ⟨congrArg vi (bi_cg (by omega)), rfl⟩

set_option maxRecDepth 20000 in
theorem r_fault {μ : Mem} : SP mX12_fault [vr 256] μ (fun w m => w = vi (μ 256 19) ∧ m = μ) := by
  refine SP_intro (ls := [vr 256]) (by decide +kernel) rfl rfl (Nat.le_of_ble_eq_true rfl) rfl (fun X hX => ?_)
  refine V_aloadn (pc := 0) dX12_fault_0 rfl ?_
  refine V_geti (r := 0) (pc := 1) dX12_fault_1 fX12_52 zk_256 ?_
  refine V_iret hX dX12_fault_4 rfl ?_
  exact ⟨rfl, rfl⟩

set_option maxRecDepth 20000 in
theorem r_fails {μ : Mem} {n x : Int} : SP mX12_fails [vr 256, vi n, vi x] μ (fun w m => w = vi n ∧ m = mu μ 256 19 x) := by
  refine SP_intro (ls := [vr 256, vi n, vi x]) (by decide +kernel) rfl rfl (Nat.le_of_ble_eq_true rfl) rfl (fun X hX => ?_)
  refine V_aloadn (pc := 0) dX12_fails_0 rfl ?_
  refine V_iloadn (pc := 1) dX12_fails_1 rfl ?_
  refine V_puti (pc := 2) dX12_fails_2 fX12_52 zk_256 ?_
  refine V_iloadn (pc := 5) dX12_fails_5 rfl ?_
  refine V_iret hX dX12_fails_6 rfl ?_
  exact ⟨rfl, rfl⟩

theorem VL.one {μ : Mem} (hV : VL μ) {r : Int} (hr : 0 ≤ r ∧ r < μ 32 1) : (0 ≤ μ (32 + 4) r.toNat ∧ μ (32 + 4) r.toNat < μ 32 0) ∧ (0 ≤ μ (32 + 5) r.toNat ∧ μ (32 + 5) r.toNat < μ 32 0) ∧ ¬ μ (32 + 4) r.toNat = μ (32 + 5) r.toNat ∧ (1 ≤ μ (32 + 6) r.toNat ∧ μ (32 + 6) r.toNat ≤ 99) := hV.1 r.toNat (by omega)
theorem RM.road {μ : Mem} (hR : RM μ) {r : Int} (hr : 0 ≤ r ∧ r < μ 32 1) : μ 259 r.toNat = μ (32 + 4) r.toNat ∧ μ 260 r.toNat = μ (32 + 5) r.toNat ∧ μ 261 r.toNat = μ (32 + 6) r.toNat := hR.2.1 r.toNat (by omega)
theorem gBy_eq {μ : Mem} {p r : Int} (hr : 0 ≤ r ∧ r < μ 32 1) : gBy μ 32 p r = if μ (32 + 4) r.toNat = p then μ (32 + 5) r.toNat else μ (32 + 4) r.toNat := by
  unfold gBy gOne gTwo; rw [if_pos hr, if_pos hr]
theorem gLn_eq {μ : Mem} {r : Int} (hr : 0 ≤ r ∧ r < μ 32 1) : gLn μ 32 r = μ (32 + 6) r.toNat := by unfold gLn; rw [if_pos hr]
/-- p is an end of the road r -/
abbrev eP (μ : Mem) (p r : Int) : Prop := μ (32 + 4) r.toNat = p ∨ μ (32 + 5) r.toNat = p
theorem VL.side {μ : Mem} (hV : VL μ) {p i : Int} (hp : 0 ≤ p ∧ p < μ 32 0) (hi : 0 ≤ i ∧ i < μ (32 + 10) p.toNat) : gRd μ 32 p i = μ (32 + 11) (p * 5 + i).toNat ∧ (0 ≤ gRd μ 32 p i ∧ gRd μ 32 p i < μ 32 1) ∧ eP μ p (gRd μ 32 p i) := by
  have h := hV.2.1 p.toNat i.toNat (by omega) (by omega)
  have e : p.toNat * 5 + i.toNat = (p * 5 + i).toNat := by omega
  have e2 : gRd μ 32 p i = μ (32 + 11) (p * 5 + i).toNat := by unfold gRd; rw [if_pos ⟨hp, hi⟩]
  rw [e] at h
  refine ⟨e2, ?_, ?_⟩
  · rw [e2]; exact h.1
  · rw [e2]; unfold eP; have := h.2; omega

set_option maxRecDepth 20000 in
theorem r_otherEnd {μ : Mem} (hG : GI μ) {r p : Int} (hr : 0 ≤ r ∧ r < μ 32 1) (hp : inR p) : SP mX12_otherEnd [vr 256, vi r, vi p] μ (fun w m => w = vi (if eP μ p r then gBy μ 32 p r else -1) ∧ m = μ) := by
  refine SP_intro (ls := [vr 256, vi r, vi p]) (by decide +kernel) rfl rfl (Nat.le_of_ble_eq_true rfl) rfl (fun X hX => ?_)
  obtain ⟨hL, hO, hV, hR⟩ := id hG
  obtain ⟨hL0, hL1, hL2, hL3, hL4⟩ := id hL
  have v1 := hV.one hr
  have v2 := hR.road hr
  have g1 := gBy_eq (p := p) hr
  refine V_aloadn (pc := 0) dX12_otherEnd_0 rfl ?_
  refine V_getr (pc := 1) dX12_otherEnd_1 fX12_7 zk_256 zr_256_2 ?_
  refine V_iloadn (pc := 4) dX12_otherEnd_4 rfl ?_
  refine V_iald (pc := 5) dX12_otherEnd_5 zk_259 (by omega) (by omega) (by decide) ?_
  refine V_iloadn (pc := 6) dX12_otherEnd_6 rfl ?_
  refine V_icmp_ne (pc := 7) (tgt := 19) dX12_otherEnd_7 (by decide) (by omega) (by omega) (fun h7 => ?_) (fun h7 => ?_)
  · refine V_aloadn (pc := 19) dX12_otherEnd_19 rfl ?_
    refine V_getr (pc := 20) dX12_otherEnd_20 fX12_13 zk_256 zr_256_3 ?_
    refine V_iloadn (pc := 23) dX12_otherEnd_23 rfl ?_
    refine V_iald (pc := 24) dX12_otherEnd_24 zk_260 (by omega) (by omega) (by decide) ?_
    refine V_iloadn (pc := 25) dX12_otherEnd_25 rfl ?_
    refine V_icmp_ne (pc := 26) (tgt := 38) dX12_otherEnd_26 (by decide) (by omega) (by omega) (fun h26 => ?_) (fun h26 => ?_)
    · refine V_iconst (pc := 38) dX12_otherEnd_38 ?_
      refine V_iret hX dX12_otherEnd_39 rfl ?_
      refine ⟨congrArg vi ?_, rfl⟩
      unfold eP
      split <;> (try rw [g1]) <;> (try split) <;> omega
    · refine V_aloadn (pc := 29) dX12_otherEnd_29 rfl ?_
      refine V_getr (pc := 30) dX12_otherEnd_30 fX12_7 zk_256 zr_256_2 ?_
      refine V_iloadn (pc := 33) dX12_otherEnd_33 rfl ?_
      refine V_iald (pc := 34) dX12_otherEnd_34 zk_259 (by omega) (by omega) (by decide) ?_
      refine V_goto (pc := 35) (tgt := 39) dX12_otherEnd_35 (by decide) ?_
      refine V_iret hX dX12_otherEnd_39 rfl ?_
      refine ⟨congrArg vi ?_, rfl⟩
      unfold eP
      split <;> (try rw [g1]) <;> (try split) <;> omega
  · refine V_aloadn (pc := 10) dX12_otherEnd_10 rfl ?_
    refine V_getr (pc := 11) dX12_otherEnd_11 fX12_13 zk_256 zr_256_3 ?_
    refine V_iloadn (pc := 14) dX12_otherEnd_14 rfl ?_
    refine V_iald (pc := 15) dX12_otherEnd_15 zk_260 (by omega) (by omega) (by decide) ?_
    refine V_goto (pc := 16) (tgt := 39) dX12_otherEnd_16 (by decide) ?_
    refine V_iret hX dX12_otherEnd_39 rfl ?_
    refine ⟨congrArg vi ?_, rfl⟩
    unfold eP
    split <;> (try rw [g1]) <;> (try split) <;> omega

set_option maxRecDepth 20000 in
theorem r_stands {μ : Mem} (hG : GI μ) {p i k : Int} (hp : 0 ≤ p ∧ p < μ 32 0) (hi : 0 ≤ i ∧ i < μ (32 + 10) p.toNat) (hk : 0 ≤ k ∧ k ≤ 100) : SP mX12_stands [vr 256, vi p, vi i, vi k] μ (fun w m => w = vi (gRd μ 32 p (sA μ p i k)) ∧ m = μ) := by
  refine SP_intro (ls := [vr 256, vi p, vi i, vi k]) (by decide +kernel) rfl rfl (Nat.le_of_ble_eq_true rfl) rfl (fun X hX => ?_)
  obtain ⟨hL, hO, hV, hR⟩ := id hG
  obtain ⟨hL0, hL1, hL2, hL3, hL4⟩ := id hL
  have s1 := hR.2.2.2.1 p.toNat (by omega)
  have s2 := hL3 p.toNat
  have e0 : gSd μ 32 p = μ (32 + 10) p.toNat := by unfold gSd; rw [if_pos hp]
  have m1 := Int.emod_nonneg (i + k) (show gSd μ 32 p ≠ 0 by omega)
  have m2 := Int.emod_lt_of_pos (i + k) (show 0 < gSd μ 32 p by omega)
  have t0 := tdiv_rg (a := i + k) (b := μ (32 + 10) p.toNat) (by omega) (by omega)
  have e1 : sA μ p i k = (i + k) % gSd μ 32 p := by unfold sA; rw [if_pos (by omega)]
  have v1 := hV.side hp (i := (i + k) % gSd μ 32 p) ⟨m1, by omega⟩
  have s3 := s1.2 ((i + k) % gSd μ 32 p).toNat (by omega)
  refine V_aloadn (pc := 0) dX12_stands_0 rfl ?_
  refine V_getr (pc := 1) dX12_stands_1 fX12_31 zk_256 zr_256_10 ?_
  refine V_iconst (pc := 4) dX12_stands_4 ?_
  refine V_iloadn (pc := 5) dX12_stands_5 rfl ?_
  refine V_imul (pc := 6) dX12_stands_6 ?_
  refine V_iloadn (pc := 7) dX12_stands_7 rfl ?_
  refine V_iloadn (pc := 8) dX12_stands_8 rfl ?_
  refine V_iadd (pc := 9) dX12_stands_9 ?_
  refine V_aloadn (pc := 10) dX12_stands_10 rfl ?_
  refine V_getr (pc := 11) dX12_stands_11 fX12_28 zk_256 zr_256_9 ?_
  refine V_iloadn (pc := 14) dX12_stands_14 rfl ?_
  refine V_iald (pc := 15) dX12_stands_15 zk_266 (by omega) (by omega) (by decide) ?_
  rw [s1.1]
  refine V_irem (pc := 16) dX12_stands_16 (by omega) (by omega) (by omega) (by omega) ?_
  rw [Int.tmod_eq_emod_of_nonneg (by omega), ← e0]
  refine V_iadd (pc := 17) dX12_stands_17 ?_
  refine V_iald (pc := 18) dX12_stands_18 zk_267 (by omega) (by omega) (by decide) ?_
  refine V_iret hX dX12_stands_19 rfl ?_
  refine ⟨congrArg vi ?_, rfl⟩
  rw [e1, v1.1, show (p * 5 + (i + k) % gSd μ 32 p).toNat = p.toNat * 5 + ((i + k) % gSd μ 32 p).toNat by omega, ← s3]
  congr 1
  omega


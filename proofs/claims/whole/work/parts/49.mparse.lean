/-! THE REFERENCE READS -/
theorem skG_fuel {c : Int → Prop} [DecidablePred c] {L : Int} (h : ∀ a, c a → a < L) : ∀ (n m : Nat) (a : Int), L - a ≤ n → L - a ≤ m → skG c n a = skG c m a := by
  intro n
  induction n with
  | zero =>
    intro m a h1 h2
    cases m with
    | zero => rfl
    | succ m => rw [skG_s, if_neg (fun q => by have := h a q; omega)]; rfl
  | succ n ih =>
    intro m a h1 h2
    rw [skG_s]
    split
    · rename_i hc
      have := h a hc
      cases m with
      | zero => omega
      | succ m => rw [skG_s, if_pos hc]; exact ih m (a + 1) (by omega) (by omega)
    · rename_i hc
      cases m with
      | zero => rfl
      | succ m => rw [skG_s, if_neg hc]
def fdG (c : Int → Prop) [DecidablePred c] (f : Int → Int → Int) : Nat → Int → Int → Int
  | 0, _, v => v
  | n + 1, a, v => if c a then fdG c f n (a + 1) (f a v) else v
theorem fdG_s {c : Int → Prop} [DecidablePred c] {f : Int → Int → Int} {n : Nat} {a v : Int} : fdG c f (n + 1) a v = if c a then fdG c f n (a + 1) (f a v) else v := rfl
theorem fdG_fuel {c : Int → Prop} [DecidablePred c] {f : Int → Int → Int} {L : Int} (h : ∀ a, c a → a < L) : ∀ (n m : Nat) (a v : Int), L - a ≤ n → L - a ≤ m → fdG c f n a v = fdG c f m a v := by
  intro n
  induction n with
  | zero =>
    intro m a v h1 h2
    cases m with
    | zero => rfl
    | succ m => rw [fdG_s, if_neg (fun q => by have := h a q; omega)]; rfl
  | succ n ih =>
    intro m a v h1 h2
    rw [fdG_s]
    split
    · rename_i hc
      have := h a hc
      cases m with
      | zero => omega
      | succ m => rw [fdG_s, if_pos hc]; exact ih m (a + 1) _ (by omega) (by omega)
    · rename_i hc
      cases m with
      | zero => rfl
      | succ m => rw [fdG_s, if_neg hc]
def sgm (μ : Mem) (a : Int) : Int := if 0 ≤ a ∧ a < μ 256 18 then μ 274 a.toNat else -1
theorem sgm_in {μ : Mem} {a : Int} (h : 0 ≤ a ∧ a < μ 256 18) : sgm μ a = μ 274 a.toNat := if_pos h
theorem sgm_out {μ : Mem} {a : Int} (h : ¬ (0 ≤ a ∧ a < μ 256 18)) : sgm μ a = -1 := if_neg h
theorem sgm_lt {μ : Mem} {a : Int} (h : 0 ≤ sgm μ a) : 0 ≤ a ∧ a < μ 256 18 := by
  unfold sgm at h
  split at h
  · assumption
  · omega
def MX (μ : Mem) : Prop := (0 ≤ μ 256 18 ∧ μ 256 18 ≤ 400) ∧ (∀ i, 0 ≤ μ 274 i ∧ μ 274 i ≤ 255) ∧ (0 ≤ μ 256 20 ∧ μ 256 20 ≤ μ 256 18)
theorem sgm_cg {μ ν : Mem} (h1 : ν 256 18 = μ 256 18) (h2 : ν 274 = μ 274) : sgm ν = sgm μ := by
  funext a; simp only [sgm, h1, h2]
def hB (μ : Mem) : Int := skG (bC (sgm μ)) 400 (μ 256 20)
def heM (μ : Mem) : Mem := mu μ 256 20 (hB μ)
theorem hB_rg {μ : Mem} (h : MX μ) : μ 256 20 ≤ hB μ ∧ hB μ ≤ μ 256 18 :=
  skG_rg (fun a (ha : sgm μ a = 32) => (sgm_lt (by omega)).2) 400 _ h.2.2.2
theorem heM_20 {μ : Mem} : heM μ 256 20 = hB μ := mu_h
theorem heM_j {μ : Mem} {j : Nat} (h : j ≠ 20) : heM μ 256 j = μ 256 j := mu_j h
theorem heM_c {μ : Mem} {c : Nat} (h : c ≠ 256) : heM μ c = μ c := mu_ne h
theorem sgm_he {μ : Mem} : sgm (heM μ) = sgm μ := sgm_cg (heM_j (by decide)) (heM_c (by decide))
theorem MX_he {μ : Mem} (h : MX μ) : MX (heM μ) := by
  have g := hB_rg h
  obtain ⟨h1, h2, h3⟩ := h
  exact ⟨by rw [heM_j (by decide)]; exact h1, by rw [heM_c (by decide)]; exact h2, by rw [heM_20, heM_j (by decide)]; omega⟩
theorem sgm_r {μ : Mem} (h : MX μ) (a : Int) : -1 ≤ sgm μ a ∧ sgm μ a ≤ 255 := by
  unfold sgm
  split
  · have := h.2.1 a.toNat; omega
  · omega
theorem mm2 {ν : Mem} {k i j : Nat} {v a v' a' : Int} (h : i ≠ j) : mu (mu (mu (mu ν k i v) k j a) k i v') k j a' = mu (mu ν k i v') k j a' := by
  funext x y
  simp only [mu]
  by_cases h1 : x = k ∧ y = j
  · repeat rw [if_pos h1]
  · repeat rw [if_neg h1]
    by_cases h2 : x = k ∧ y = i
    · repeat rw [if_pos h2]
    · repeat rw [if_neg h2]

set_option maxRecDepth 20000 in
theorem l_here {μ : Mem} (h : MX μ) {X : ZX} {E : Int} (hK : V X mX12_here 38 [vr 256] [] (mu μ 256 20 E)) : ∀ (n : Nat) (a : Int), (a + n = μ 256 18) → (0 ≤ a) → (skG (bC (sgm μ)) n a = E) → V X mX12_here 0 [vr 256] [] (mu μ 256 20 a) := by
  intro n
  induction n with
  | zero =>
    intro a h1 h0 hE
    obtain ⟨x1, x2, x3⟩ := id h
    have s1 := sgm_r h a
    refine V_aloadn (pc := 0) dX12_here_0 rfl ?_
    refine V_geti (r := 0) (pc := 1) dX12_here_1 fX12_138 zk_256 ?_
    rw [mu_h]
    refine V_aloadn (pc := 4) dX12_here_4 rfl ?_
    refine V_geti (r := 0) (pc := 5) dX12_here_5 fX12_132 zk_256 ?_
    rw [mu_j (by decide : (18 : Nat) ≠ 20)]
    refine V_icmp_ge (pc := 8) (tgt := 38) dX12_here_8 (by decide) (by omega) (by omega) (fun h8 => ?_) (fun h8 => ?_)
    · rw [← hE] at hK
      exact hK
    · exfalso; omega
  | succ n ih =>
    intro a h1 h0 hE
    obtain ⟨x1, x2, x3⟩ := id h
    have s1 := sgm_r h a
    have e1 := sgm_in (μ := μ) (a := a) (by omega)
    refine V_aloadn (pc := 0) dX12_here_0 rfl ?_
    refine V_geti (r := 0) (pc := 1) dX12_here_1 fX12_138 zk_256 ?_
    rw [mu_h]
    refine V_aloadn (pc := 4) dX12_here_4 rfl ?_
    refine V_geti (r := 0) (pc := 5) dX12_here_5 fX12_132 zk_256 ?_
    rw [mu_j (by decide : (18 : Nat) ≠ 20)]
    refine V_icmp_ge (pc := 8) (tgt := 38) dX12_here_8 (by decide) (by omega) (by omega) (fun h8 => ?_) (fun h8 => ?_)
    · exfalso; omega
    · refine V_aloadn (pc := 11) dX12_here_11 rfl ?_
      refine V_getr (pc := 12) dX12_here_12 fX12_49 zk_256 zr_256_17 ?_
      refine V_aloadn (pc := 15) dX12_here_15 rfl ?_
      refine V_geti (r := 0) (pc := 16) dX12_here_16 fX12_138 zk_256 ?_
      rw [mu_h]
      refine V_iald (pc := 19) dX12_here_19 zk_274 (by omega) (by omega) (by decide) ?_
      rw [mu_c (by decide : (274 : Nat) ≠ 256)]
      refine V_bipush (pc := 20) dX12_here_20 (by decide +kernel) ?_
      refine V_icmp_ne (pc := 22) (tgt := 38) dX12_here_22 (by decide) (by omega) (by decide) (fun h22 => ?_) (fun h22 => ?_)
      · rw [← hE, skG_s, if_neg (by omega)] at hK
        exact hK
      · refine V_aloadn (pc := 25) dX12_here_25 rfl ?_
        refine V_dup_r (pc := 26) dX12_here_26 ?_
        refine V_geti (r := 0) (pc := 27) dX12_here_27 fX12_138 zk_256 ?_
        rw [mu_h]
        refine V_iconst (pc := 30) dX12_here_30 ?_
        refine V_iadd (pc := 31) dX12_here_31 ?_
        refine V_puti (pc := 32) dX12_here_32 fX12_138 zk_256 ?_
        refine V_goto (pc := 35) (tgt := 0) dX12_here_35 (by decide) ?_
        rw [mu_mu]
        exact ih (a + 1) (by omega) (by omega) (by rw [← hE, skG_s, if_pos (by omega)])

set_option maxRecDepth 20000 in
theorem r_here {μ : Mem} (h : MX μ) : SP mX12_here [vr 256] μ (fun w m => w = vi (sgm μ (hB μ)) ∧ m = heM μ) := by
  refine SP_intro (ls := [vr 256]) (by decide +kernel) rfl rfl (Nat.le_of_ble_eq_true rfl) rfl (fun X hX => ?_)
  obtain ⟨x1, x2, x3⟩ := id h
  have g := hB_rg h
  have ef := skG_fuel (c := bC (sgm μ)) (L := μ 256 18) (fun a (ha : sgm μ a = 32) => (sgm_lt (by omega)).2) (μ 256 18 - μ 256 20).toNat 400 (μ 256 20) (by omega) (by omega)
  refine (fun hK => ?_ : V X mX12_here 38 [vr 256] [] (mu μ 256 20 (hB μ)) → V X mX12_here 0 [vr 256] [] μ) ?_
  · have e := l_here h (X := X) (E := hB μ) hK (μ 256 18 - μ 256 20).toNat (μ 256 20) (by omega) (by omega) ef
    rwa [mu_sv] at e
  refine V_aloadn (pc := 38) dX12_here_38 rfl ?_
  refine V_geti (r := 0) (pc := 39) dX12_here_39 fX12_138 zk_256 ?_
  rw [mu_h]
  refine V_aloadn (pc := 42) dX12_here_42 rfl ?_
  refine V_geti (r := 0) (pc := 43) dX12_here_43 fX12_132 zk_256 ?_
  rw [mu_j (by decide : (18 : Nat) ≠ 20)]
  refine V_icmp_ge (pc := 46) (tgt := 61) dX12_here_46 (by decide) (by omega) (by omega) (fun h46 => ?_) (fun h46 => ?_)
  · refine V_iconst (pc := 61) dX12_here_61 ?_
    refine V_iret hX dX12_here_62 rfl ?_
    exact ⟨congrArg vi (by first | rw [sgm_in (by omega)] | rw [sgm_out (by omega)]), rfl⟩
  · refine V_aloadn (pc := 49) dX12_here_49 rfl ?_
    refine V_getr (pc := 50) dX12_here_50 fX12_49 zk_256 zr_256_17 ?_
    refine V_aloadn (pc := 53) dX12_here_53 rfl ?_
    refine V_geti (r := 0) (pc := 54) dX12_here_54 fX12_138 zk_256 ?_
    rw [mu_h]
    refine V_iald (pc := 57) dX12_here_57 zk_274 (by omega) (by omega) (by decide) ?_
    rw [mu_c (by decide : (274 : Nat) ≠ 256)]
    refine V_goto (pc := 58) (tgt := 62) dX12_here_58 (by decide) ?_
    refine V_iret hX dX12_here_62 rfl ?_
    exact ⟨congrArg vi (by first | rw [sgm_in (by omega)] | rw [sgm_out (by omega)]), rfl⟩

abbrev sdS (σ : Int → Int) (a v : Int) : Int := if 1000000000000 < v then 2000000000000 else 27 * v + σ a - 96
abbrev nmS (σ : Int → Int) (a v : Int) : Int := if 10000 < v then v else 10 * v + σ a - 48
def hW (μ : Mem) : Int := skG (lC (sgm μ)) 400 (hB μ)
def hS (μ : Mem) : Int := fdG (lC (sgm μ)) (sdS (sgm μ)) 400 (hB μ) 0
def hE (μ : Mem) : Int := skG (dC (sgm μ)) 400 (hB μ)
def hV (μ : Mem) : Int := fdG (dC (sgm μ)) (nmS (sgm μ)) 400 (hB μ) 0
def rwM (μ : Mem) : Mem := mu (mu (heM μ) 256 21 (hS μ)) 256 22 (hW μ)

set_option maxRecDepth 20000 in
theorem l_word {μ : Mem} (h : MX μ) {X : ZX} {E S : Int} (hX : isM X (fun w m => w = un ∧ m = mu (mu μ 256 21 S) 256 22 E)) : ∀ (n : Nat) (a v c : Int), (a + n = μ 256 18) → (0 ≤ a) → (0 ≤ v ∧ v ≤ 27000000000100) → (skG (lC (sgm μ)) n a = E) → (fdG (lC (sgm μ)) (sdS (sgm μ)) n a v = S) → V X mX12_readWord 18 [vr 256, vi c] [] (mu (mu μ 256 21 v) 256 22 a) := by
  intro n
  induction n with
  | zero =>
    intro a v c h1 h0 hv hE hS
    obtain ⟨x1, x2, x3⟩ := id h
    have s1 := sgm_r h a
    refine V_aloadn (pc := 18) dX12_readWord_18 rfl ?_
    refine V_geti (r := 0) (pc := 19) dX12_readWord_19 fX12_149 zk_256 ?_
    rw [mu_h]
    refine V_aloadn (pc := 22) dX12_readWord_22 rfl ?_
    refine V_geti (r := 0) (pc := 23) dX12_readWord_23 fX12_132 zk_256 ?_
    rw [mu_j (by decide : (18 : Nat) ≠ 22)]
    rw [mu_j (by decide : (18 : Nat) ≠ 21)]
    refine V_icmp_ge (pc := 26) (tgt := 108) dX12_readWord_26 (by decide) (by omega) (by omega) (fun h26 => ?_) (fun h26 => ?_)
    · refine V_vret (x := 0) hX dX12_readWord_108 rfl ?_
      exact ⟨rfl, by rw [← hE, ← hS]; rfl⟩
    · exfalso; omega
  | succ n ih =>
    intro a v c h1 h0 hv hE hS
    obtain ⟨x1, x2, x3⟩ := id h
    have s1 := sgm_r h a
    have e1 := sgm_in (μ := μ) (a := a) (by omega)
    refine V_aloadn (pc := 18) dX12_readWord_18 rfl ?_
    refine V_geti (r := 0) (pc := 19) dX12_readWord_19 fX12_149 zk_256 ?_
    rw [mu_h]
    refine V_aloadn (pc := 22) dX12_readWord_22 rfl ?_
    refine V_geti (r := 0) (pc := 23) dX12_readWord_23 fX12_132 zk_256 ?_
    rw [mu_j (by decide : (18 : Nat) ≠ 22)]
    rw [mu_j (by decide : (18 : Nat) ≠ 21)]
    refine V_icmp_ge (pc := 26) (tgt := 108) dX12_readWord_26 (by decide) (by omega) (by omega) (fun h26 => ?_) (fun h26 => ?_)
    · exfalso; omega
    · refine V_aloadn (pc := 29) dX12_readWord_29 rfl ?_
      refine V_getr (pc := 30) dX12_readWord_30 fX12_49 zk_256 zr_256_17 ?_
      refine V_aloadn (pc := 33) dX12_readWord_33 rfl ?_
      refine V_geti (r := 0) (pc := 34) dX12_readWord_34 fX12_149 zk_256 ?_
      rw [mu_h]
      refine V_iald (pc := 37) dX12_readWord_37 zk_274 (by omega) (by omega) (by decide) ?_
      rw [mu_c (by decide : (274 : Nat) ≠ 256)]
      rw [mu_c (by decide : (274 : Nat) ≠ 256)]
      refine V_i2l (pc := 38) dX12_readWord_38 (by omega) ?_
      refine V_ldc2 (pc := 39) (n := 97) dX12_readWord_39 nX12_152 (by decide) ?_
      refine V_ldc2 (pc := 42) (n := 122) dX12_readWord_42 nX12_154 (by decide) ?_
      refine V_cs3 (pc := 45) dX12_readWord_45 kX12_121 (by decide) (Nat.le_of_ble_eq_true rfl) (r_in (by omega) (by decide) (by decide)) rfl ?_
      refine V_ifeq_b (pc := 48) (tgt := 108) dX12_readWord_48 (by decide) (fun h48 => ?_) (fun h48 => ?_)
      · refine V_vret (x := 0) hX dX12_readWord_108 rfl ?_
        exact ⟨rfl, by rw [← hE, ← hS, skG_s, fdG_s, if_neg (by omega), if_neg (by omega)]⟩
      · refine V_aloadn (pc := 51) dX12_readWord_51 rfl ?_
        refine V_aloadn (pc := 52) dX12_readWord_52 rfl ?_
        refine V_getl (r := 0) (pc := 53) dX12_readWord_53 fX12_145 zk_256 ?_
        rw [mu_j (by decide : (21 : Nat) ≠ 22)]
        rw [mu_h]
        refine V_ldc2 (pc := 56) (n := 1000000000000) dX12_readWord_56 nX12_156 (by decide) ?_
        refine V_lcmp (pc := 59) dX12_readWord_59 (by omega) (by omega) ?_
        have hc1 := lcm_gt v 1000000000000
        have hc2 : inR (lcm v 1000000000000) := lcm_rg _ _
        refine V_if_le (pc := 60) (tgt := 69) dX12_readWord_60 (by decide) (by omega) (fun h60 => ?_) (fun h60 => ?_)
        · refine V_ldc2 (pc := 69) (n := 27) dX12_readWord_69 nX12_160 (by decide) ?_
          refine V_aloadn (pc := 72) dX12_readWord_72 rfl ?_
          refine V_getl (r := 0) (pc := 73) dX12_readWord_73 fX12_145 zk_256 ?_
          rw [mu_j (by decide : (21 : Nat) ≠ 22)]
          rw [mu_h]
          refine V_lmul (pc := 76) dX12_readWord_76 ?_
          refine V_aloadn (pc := 77) dX12_readWord_77 rfl ?_
          refine V_getr (pc := 78) dX12_readWord_78 fX12_49 zk_256 zr_256_17 ?_
          refine V_aloadn (pc := 81) dX12_readWord_81 rfl ?_
          refine V_geti (r := 0) (pc := 82) dX12_readWord_82 fX12_149 zk_256 ?_
          rw [mu_h]
          refine V_iald (pc := 85) dX12_readWord_85 zk_274 (by omega) (by omega) (by decide) ?_
          rw [mu_c (by decide : (274 : Nat) ≠ 256)]
          rw [mu_c (by decide : (274 : Nat) ≠ 256)]
          refine V_i2l (pc := 86) dX12_readWord_86 (by omega) ?_
          refine V_ladd (pc := 87) dX12_readWord_87 ?_
          refine V_ldc2 (pc := 88) (n := 96) dX12_readWord_88 nX12_162 (by decide) ?_
          refine V_lsub (pc := 91) dX12_readWord_91 ?_
          refine V_putl (pc := 92) dX12_readWord_92 fX12_145 zk_256 ?_
          refine V_aloadn (pc := 95) dX12_readWord_95 rfl ?_
          refine V_dup_r (pc := 96) dX12_readWord_96 ?_
          refine V_geti (r := 0) (pc := 97) dX12_readWord_97 fX12_149 zk_256 ?_
          rw [mu_j (by decide : (22 : Nat) ≠ 21)]
          rw [mu_h]
          refine V_iconst (pc := 100) dX12_readWord_100 ?_
          refine V_iadd (pc := 101) dX12_readWord_101 ?_
          refine V_puti (pc := 102) dX12_readWord_102 fX12_149 zk_256 ?_
          refine V_goto (pc := 105) (tgt := 18) dX12_readWord_105 (by decide) ?_
          rw [mm2 (by decide)]
          exact ih (a + 1) _ _ (by omega) (by omega) (by omega) (by rw [← hE, skG_s, if_pos (by omega)]) (by rw [← hS, fdG_s, if_pos (by omega)]; unfold sdS; first | rw [if_pos (by omega)] | rw [if_neg (by omega), e1])
        · refine V_ldc2 (pc := 63) (n := 2000000000000) dX12_readWord_63 nX12_158 (by decide) ?_
          refine V_goto (pc := 66) (tgt := 92) dX12_readWord_66 (by decide) ?_
          refine V_putl (pc := 92) dX12_readWord_92 fX12_145 zk_256 ?_
          refine V_aloadn (pc := 95) dX12_readWord_95 rfl ?_
          refine V_dup_r (pc := 96) dX12_readWord_96 ?_
          refine V_geti (r := 0) (pc := 97) dX12_readWord_97 fX12_149 zk_256 ?_
          rw [mu_j (by decide : (22 : Nat) ≠ 21)]
          rw [mu_h]
          refine V_iconst (pc := 100) dX12_readWord_100 ?_
          refine V_iadd (pc := 101) dX12_readWord_101 ?_
          refine V_puti (pc := 102) dX12_readWord_102 fX12_149 zk_256 ?_
          refine V_goto (pc := 105) (tgt := 18) dX12_readWord_105 (by decide) ?_
          rw [mm2 (by decide)]
          exact ih (a + 1) _ _ (by omega) (by omega) (by omega) (by rw [← hE, skG_s, if_pos (by omega)]) (by rw [← hS, fdG_s, if_pos (by omega)]; unfold sdS; first | rw [if_pos (by omega)] | rw [if_neg (by omega), e1])

set_option maxRecDepth 20000 in
theorem r_readWord {μ : Mem} (h : MX μ) : SP mX12_readWord [vr 256] μ (fun w m => w = un ∧ m = rwM μ) := by
  refine SP_intro (ls := [vr 256, un]) (by decide +kernel) rfl rfl (Nat.le_of_ble_eq_true rfl) rfl (fun X hX => ?_)
  have hm := MX_he h
  obtain ⟨x1, x2, x3⟩ := id hm
  rw [heM_20] at x3
  refine V_aloadn (pc := 0) dX12_readWord_0 rfl ?_
  refine V_cv0 (pc := 1) dX12_readWord_1 kX12_141 zk_256 (by decide) (Nat.le_of_ble_eq_true rfl) (r_here h) rfl ?_
  refine V_istore_1 (pc := 4) dX12_readWord_4 (by decide) rfl ?_
  refine V_aloadn (pc := 5) dX12_readWord_5 rfl ?_
  refine V_lconst0 (pc := 6) dX12_readWord_6 ?_
  refine V_putl (pc := 7) dX12_readWord_7 fX12_145 zk_256 ?_
  refine V_aloadn (pc := 10) dX12_readWord_10 rfl ?_
  refine V_aloadn (pc := 11) dX12_readWord_11 rfl ?_
  refine V_geti (r := 0) (pc := 12) dX12_readWord_12 fX12_138 zk_256 ?_
  rw [mu_j (by decide : (20 : Nat) ≠ 21)]
  rw [heM_20]
  refine V_puti (pc := 15) dX12_readWord_15 fX12_149 zk_256 ?_
  have e1 := skG_fuel (c := lC (sgm (heM μ))) (L := heM μ 256 18) (fun a ha => (sgm_lt (by omega)).2) (heM μ 256 18 - hB μ).toNat 400 (hB μ) (by omega) (by omega)
  have e2 := fdG_fuel (c := lC (sgm (heM μ))) (f := sdS (sgm (heM μ))) (L := heM μ 256 18) (fun a ha => (sgm_lt (by omega)).2) (heM μ 256 18 - hB μ).toNat 400 (hB μ) 0 (by omega) (by omega)
  exact l_word hm (X := X) (E := hW μ) (S := hS μ) hX (heM μ 256 18 - hB μ).toNat (hB μ) 0 _ (by omega) (by omega) (by decide) (by rw [e1, sgm_he]; rfl) (by rw [e2, sgm_he]; rfl)

set_option maxRecDepth 20000 in
theorem r_code {μ : Mem} {a b c d : Int} (ha : 0 ≤ a ∧ a ≤ 200) (hb : 0 ≤ b ∧ b ≤ 200) (hc : 0 ≤ c ∧ c ≤ 200) (hd : 0 ≤ d ∧ d ≤ 200) : SP mX12_code [vi a, vi b, vi c, vi d] μ (fun w m => w = vl (27 * (27 * (27 * (a - 96) + b - 96) + c - 96) + d - 96) ∧ m = μ) := by
  refine SP_intro (ls := [vi a, vi b, vi c, vi d]) (by decide +kernel) rfl rfl (Nat.le_of_ble_eq_true rfl) rfl (fun X hX => ?_)
  refine V_ldc2 (pc := 0) (n := 27) dX12_code_0 nX12_160 (by decide) ?_
  refine V_ldc2 (pc := 3) (n := 27) dX12_code_3 nX12_160 (by decide) ?_
  refine V_ldc2 (pc := 6) (n := 27) dX12_code_6 nX12_160 (by decide) ?_
  refine V_iloadn (pc := 9) dX12_code_9 rfl ?_
  refine V_i2l (pc := 10) dX12_code_10 (by omega) ?_
  refine V_ldc2 (pc := 11) (n := 96) dX12_code_11 nX12_162 (by decide) ?_
  refine V_lsub (pc := 14) dX12_code_14 ?_
  refine V_lmul (pc := 15) dX12_code_15 ?_
  refine V_iloadn (pc := 16) dX12_code_16 rfl ?_
  refine V_i2l (pc := 17) dX12_code_17 (by omega) ?_
  refine V_ladd (pc := 18) dX12_code_18 ?_
  refine V_ldc2 (pc := 19) (n := 96) dX12_code_19 nX12_162 (by decide) ?_
  refine V_lsub (pc := 22) dX12_code_22 ?_
  refine V_lmul (pc := 23) dX12_code_23 ?_
  refine V_iloadn (pc := 24) dX12_code_24 rfl ?_
  refine V_i2l (pc := 25) dX12_code_25 (by omega) ?_
  refine V_ladd (pc := 26) dX12_code_26 ?_
  refine V_ldc2 (pc := 27) (n := 96) dX12_code_27 nX12_162 (by decide) ?_
  refine V_lsub (pc := 30) dX12_code_30 ?_
  refine V_lmul (pc := 31) dX12_code_31 ?_
  refine V_iloadn (pc := 32) dX12_code_32 rfl ?_
  refine V_i2l (pc := 33) dX12_code_33 (by omega) ?_
  refine V_ladd (pc := 34) dX12_code_34 ?_
  refine V_ldc2 (pc := 35) (n := 96) dX12_code_35 nX12_162 (by decide) ?_
  refine V_lsub (pc := 38) dX12_code_38 ?_
  refine V_lret hX dX12_code_39 rfl ?_
  exact ⟨rfl, rfl⟩

theorem fd_rg {σ : Int → Int} : ∀ (n : Nat) (a v : Int), (0 ≤ v ∧ v ≤ 100009) → 0 ≤ fdG (dC σ) (nmS σ) n a v ∧ fdG (dC σ) (nmS σ) n a v ≤ 100009 := by
  intro n
  induction n with
  | zero => intro a v h; exact h
  | succ n ih =>
    intro a v h
    rw [fdG_s]
    split
    · rename_i hc
      unfold dC at hc
      refine ih _ _ ?_
      unfold nmS
      split <;> omega
    · exact h
theorem hV_rg (μ : Mem) : 0 ≤ hV μ ∧ hV μ ≤ 100009 := fd_rg _ _ _ (by decide)
theorem hE_rg {μ : Mem} (h : MX μ) : hB μ ≤ hE μ ∧ hE μ ≤ μ 256 18 :=
  skG_rg (fun a (ha : 48 ≤ sgm μ a ∧ sgm μ a ≤ 57) => (sgm_lt (by omega)).2) 400 _ (hB_rg h).2
theorem hW_rg {μ : Mem} (h : MX μ) : hB μ ≤ hW μ ∧ hW μ ≤ μ 256 18 :=
  skG_rg (fun a (ha : 97 ≤ sgm μ a ∧ sgm μ a ≤ 122) => (sgm_lt (by omega)).2) 400 _ (hB_rg h).2
def nmM (μ : Mem) : Mem := mu (mu (mu (heM μ) 256 24 (hB μ)) 256 23 (hV μ)) 256 20 (hE μ)
def tkN (μ : Mem) (l g : Int) : Int × Mem := if ¬ dC (sgm μ) (hB μ) then (1, mu (heM μ) 256 19 (hB μ)) else if 3 < hE μ - hB μ ∨ ¬ (l ≤ hV μ ∧ hV μ ≤ g) then (2, mu (nmM μ) 256 19 (hB μ)) else (0, nmM μ)
theorem tkN_1 {μ : Mem} {l g : Int} (h : ¬ dC (sgm μ) (hB μ)) : tkN μ l g = (1, mu (heM μ) 256 19 (hB μ)) := by unfold tkN; rw [if_pos h]
theorem tkN_2 {μ : Mem} {l g : Int} (h : dC (sgm μ) (hB μ)) (h2 : 3 < hE μ - hB μ ∨ ¬ (l ≤ hV μ ∧ hV μ ≤ g)) : tkN μ l g = (2, mu (nmM μ) 256 19 (hB μ)) := by unfold tkN; rw [if_neg (fun q => q h), if_pos h2]
theorem tkN_0 {μ : Mem} {l g : Int} (h : dC (sgm μ) (hB μ)) (h2 : ¬ (3 < hE μ - hB μ ∨ ¬ (l ≤ hV μ ∧ hV μ ≤ g))) : tkN μ l g = (0, nmM μ) := by unfold tkN; rw [if_neg (fun q => q h), if_neg h2]

set_option maxRecDepth 20000 in
theorem l_tnum {μ : Mem} (h : MX μ) {X : ZX} {E N l g c : Int} (hK : V X mX12_takeNumber 129 [vr 256, vi l, vi g, vi c] [] (mu (mu μ 256 23 N) 256 20 E)) : ∀ (n : Nat) (a v : Int), (a + n = μ 256 18) → (0 ≤ a) → (0 ≤ v ∧ v ≤ 100009) → (skG (dC (sgm μ)) n a = E) → (fdG (dC (sgm μ)) (nmS (sgm μ)) n a v = N) → V X mX12_takeNumber 42 [vr 256, vi l, vi g, vi c] [] (mu (mu μ 256 23 v) 256 20 a) := by
  intro n
  induction n with
  | zero =>
    intro a v h1 h0 hv hE hN
    obtain ⟨x1, x2, x3⟩ := id h
    have s1 := sgm_r h a
    refine V_aloadn (pc := 42) dX12_takeNumber_42 rfl ?_
    refine V_geti (r := 0) (pc := 43) dX12_takeNumber_43 fX12_138 zk_256 ?_
    rw [mu_h]
    refine V_aloadn (pc := 46) dX12_takeNumber_46 rfl ?_
    refine V_geti (r := 0) (pc := 47) dX12_takeNumber_47 fX12_132 zk_256 ?_
    rw [mu_j (by decide : (18 : Nat) ≠ 20)]
    rw [mu_j (by decide : (18 : Nat) ≠ 23)]
    refine V_icmp_ge (pc := 50) (tgt := 129) dX12_takeNumber_50 (by decide) (by omega) (by omega) (fun h50 => ?_) (fun h50 => ?_)
    · rw [← hE, ← hN] at hK
      exact hK
    · exfalso; omega
  | succ n ih =>
    intro a v h1 h0 hv hE hN
    obtain ⟨x1, x2, x3⟩ := id h
    have s1 := sgm_r h a
    have e1 := sgm_in (μ := μ) (a := a) (by omega)
    refine V_aloadn (pc := 42) dX12_takeNumber_42 rfl ?_
    refine V_geti (r := 0) (pc := 43) dX12_takeNumber_43 fX12_138 zk_256 ?_
    rw [mu_h]
    refine V_aloadn (pc := 46) dX12_takeNumber_46 rfl ?_
    refine V_geti (r := 0) (pc := 47) dX12_takeNumber_47 fX12_132 zk_256 ?_
    rw [mu_j (by decide : (18 : Nat) ≠ 20)]
    rw [mu_j (by decide : (18 : Nat) ≠ 23)]
    refine V_icmp_ge (pc := 50) (tgt := 129) dX12_takeNumber_50 (by decide) (by omega) (by omega) (fun h50 => ?_) (fun h50 => ?_)
    · exfalso; omega
    · refine V_aloadn (pc := 53) dX12_takeNumber_53 rfl ?_
      refine V_getr (pc := 54) dX12_takeNumber_54 fX12_49 zk_256 zr_256_17 ?_
      refine V_aloadn (pc := 57) dX12_takeNumber_57 rfl ?_
      refine V_geti (r := 0) (pc := 58) dX12_takeNumber_58 fX12_138 zk_256 ?_
      rw [mu_h]
      refine V_iald (pc := 61) dX12_takeNumber_61 zk_274 (by omega) (by omega) (by decide) ?_
      rw [mu_c (by decide : (274 : Nat) ≠ 256)]
      rw [mu_c (by decide : (274 : Nat) ≠ 256)]
      refine V_i2l (pc := 62) dX12_takeNumber_62 (by omega) ?_
      refine V_ldc2 (pc := 63) (n := 48) dX12_takeNumber_63 nX12_164 (by decide) ?_
      refine V_ldc2 (pc := 66) (n := 57) dX12_takeNumber_66 nX12_166 (by decide) ?_
      refine V_cs3 (pc := 69) dX12_takeNumber_69 kX12_121 (by decide) (Nat.le_of_ble_eq_true rfl) (r_in (by omega) (by decide) (by decide)) rfl ?_
      refine V_ifeq_b (pc := 72) (tgt := 129) dX12_takeNumber_72 (by decide) (fun h72 => ?_) (fun h72 => ?_)
      · rw [← hE, ← hN, skG_s, fdG_s, if_neg (by omega), if_neg (by omega)] at hK
        exact hK
      · refine V_aloadn (pc := 75) dX12_takeNumber_75 rfl ?_
        refine V_aloadn (pc := 76) dX12_takeNumber_76 rfl ?_
        refine V_geti (r := 0) (pc := 77) dX12_takeNumber_77 fX12_175 zk_256 ?_
        rw [mu_j (by decide : (23 : Nat) ≠ 20)]
        rw [mu_h]
        refine V_sipush (pc := 80) dX12_takeNumber_80 (by decide +kernel) ?_
        refine V_icmp_le (pc := 83) (tgt := 93) dX12_takeNumber_83 (by decide) (by omega) (by decide) (fun h83 => ?_) (fun h83 => ?_)
        · refine V_bipush (pc := 93) dX12_takeNumber_93 (by decide +kernel) ?_
          refine V_aloadn (pc := 95) dX12_takeNumber_95 rfl ?_
          refine V_geti (r := 0) (pc := 96) dX12_takeNumber_96 fX12_175 zk_256 ?_
          rw [mu_j (by decide : (23 : Nat) ≠ 20)]
          rw [mu_h]
          refine V_imul (pc := 99) dX12_takeNumber_99 ?_
          refine V_aloadn (pc := 100) dX12_takeNumber_100 rfl ?_
          refine V_getr (pc := 101) dX12_takeNumber_101 fX12_49 zk_256 zr_256_17 ?_
          refine V_aloadn (pc := 104) dX12_takeNumber_104 rfl ?_
          refine V_geti (r := 0) (pc := 105) dX12_takeNumber_105 fX12_138 zk_256 ?_
          rw [mu_h]
          refine V_iald (pc := 108) dX12_takeNumber_108 zk_274 (by omega) (by omega) (by decide) ?_
          rw [mu_c (by decide : (274 : Nat) ≠ 256)]
          rw [mu_c (by decide : (274 : Nat) ≠ 256)]
          refine V_iadd (pc := 109) dX12_takeNumber_109 ?_
          refine V_bipush (pc := 110) dX12_takeNumber_110 (by decide +kernel) ?_
          refine V_isub (pc := 112) dX12_takeNumber_112 ?_
          refine V_puti (pc := 113) dX12_takeNumber_113 fX12_175 zk_256 ?_
          refine V_aloadn (pc := 116) dX12_takeNumber_116 rfl ?_
          refine V_dup_r (pc := 117) dX12_takeNumber_117 ?_
          refine V_geti (r := 0) (pc := 118) dX12_takeNumber_118 fX12_138 zk_256 ?_
          rw [mu_j (by decide : (20 : Nat) ≠ 23)]
          rw [mu_h]
          refine V_iconst (pc := 121) dX12_takeNumber_121 ?_
          refine V_iadd (pc := 122) dX12_takeNumber_122 ?_
          refine V_puti (pc := 123) dX12_takeNumber_123 fX12_138 zk_256 ?_
          refine V_goto (pc := 126) (tgt := 42) dX12_takeNumber_126 (by decide) ?_
          rw [mm2 (by decide)]
          exact ih (a + 1) _ (by omega) (by omega) (by omega) (by rw [← hE, skG_s, if_pos (by omega)]) (by rw [← hN, fdG_s, if_pos (by omega)]; unfold nmS; first | rw [if_pos (by omega)] | rw [if_neg (by omega), e1])
        · refine V_aloadn (pc := 86) dX12_takeNumber_86 rfl ?_
          refine V_geti (r := 0) (pc := 87) dX12_takeNumber_87 fX12_175 zk_256 ?_
          rw [mu_j (by decide : (23 : Nat) ≠ 20)]
          rw [mu_h]
          refine V_goto (pc := 90) (tgt := 113) dX12_takeNumber_90 (by decide) ?_
          refine V_puti (pc := 113) dX12_takeNumber_113 fX12_175 zk_256 ?_
          refine V_aloadn (pc := 116) dX12_takeNumber_116 rfl ?_
          refine V_dup_r (pc := 117) dX12_takeNumber_117 ?_
          refine V_geti (r := 0) (pc := 118) dX12_takeNumber_118 fX12_138 zk_256 ?_
          rw [mu_j (by decide : (20 : Nat) ≠ 23)]
          rw [mu_h]
          refine V_iconst (pc := 121) dX12_takeNumber_121 ?_
          refine V_iadd (pc := 122) dX12_takeNumber_122 ?_
          refine V_puti (pc := 123) dX12_takeNumber_123 fX12_138 zk_256 ?_
          refine V_goto (pc := 126) (tgt := 42) dX12_takeNumber_126 (by decide) ?_
          rw [mm2 (by decide)]
          exact ih (a + 1) _ (by omega) (by omega) (by omega) (by rw [← hE, skG_s, if_pos (by omega)]) (by rw [← hN, fdG_s, if_pos (by omega)]; unfold nmS; first | rw [if_pos (by omega)] | rw [if_neg (by omega), e1])

set_option maxRecDepth 20000 in
theorem r_takeNumber {μ : Mem} (h : MX μ) {l g : Int} (hl : inR l) (hg : inR g) : SP mX12_takeNumber [vr 256, vi l, vi g] μ (fun w m => w = vi (tkN μ l g).1 ∧ m = (tkN μ l g).2) := by
  refine SP_intro (ls := [vr 256, vi l, vi g, un]) (by decide +kernel) rfl rfl (Nat.le_of_ble_eq_true rfl) rfl (fun X hX => ?_)
  have hm := MX_he h
  obtain ⟨x1, x2, x3⟩ := id hm
  rw [heM_20] at x3
  have s0 := sgm_r h (hB μ)
  have g1 := hE_rg h
  have g2 := hV_rg μ
  have g3 := hB_rg h
  obtain ⟨z1, z2, z3⟩ := id h
  refine V_aloadn (pc := 0) dX12_takeNumber_0 rfl ?_
  refine V_cv0 (pc := 1) dX12_takeNumber_1 kX12_141 zk_256 (by decide) (Nat.le_of_ble_eq_true rfl) (r_here h) rfl ?_
  refine V_istore_3 (pc := 4) dX12_takeNumber_4 (by decide) rfl ?_
  refine V_iloadn (pc := 5) dX12_takeNumber_5 rfl ?_
  refine V_i2l (pc := 6) dX12_takeNumber_6 (by omega) ?_
  refine V_ldc2 (pc := 7) (n := 48) dX12_takeNumber_7 nX12_164 (by decide) ?_
  refine V_ldc2 (pc := 10) (n := 57) dX12_takeNumber_10 nX12_166 (by decide) ?_
  refine V_cs3 (pc := 13) dX12_takeNumber_13 kX12_121 (by decide) (Nat.le_of_ble_eq_true rfl) (r_in (by omega) (by decide) (by decide)) rfl ?_
  refine V_ifne_b (pc := 16) (tgt := 29) dX12_takeNumber_16 (by decide) (fun h16 => ?_) (fun h16 => ?_)
  · refine V_aloadn (pc := 29) dX12_takeNumber_29 rfl ?_
    refine V_aloadn (pc := 30) dX12_takeNumber_30 rfl ?_
    refine V_geti (r := 0) (pc := 31) dX12_takeNumber_31 fX12_138 zk_256 ?_
    rw [heM_20]
    refine V_puti (pc := 34) dX12_takeNumber_34 fX12_172 zk_256 ?_
    refine V_aloadn (pc := 37) dX12_takeNumber_37 rfl ?_
    refine V_iconst (pc := 38) dX12_takeNumber_38 ?_
    refine V_puti (pc := 39) dX12_takeNumber_39 fX12_175 zk_256 ?_
    have hm2 : MX (mu (heM μ) 256 24 (hB μ)) := ⟨by rw [mu_j (by decide)]; exact x1, by rw [mu_ne (by decide)]; exact x2, by rw [mu_j (by decide), mu_j (by decide), heM_20]; exact x3⟩
    have eS : sgm (mu (heM μ) 256 24 (hB μ)) = sgm μ := (sgm_cg (mu_j (by decide)) (mu_ne (by decide))).trans sgm_he
    have eL : mu (heM μ) 256 24 (hB μ) 256 18 = μ 256 18 := by rw [mu_j (by decide), heM_j (by decide)]
    have e1 := skG_fuel (c := dC (sgm μ)) (L := μ 256 18) (fun a ha => (sgm_lt (by omega)).2) (μ 256 18 - hB μ).toNat 400 (hB μ) (by omega) (by omega)
    have e2 := fdG_fuel (c := dC (sgm μ)) (f := nmS (sgm μ)) (L := μ 256 18) (fun a ha => (sgm_lt (by omega)).2) (μ 256 18 - hB μ).toNat 400 (hB μ) 0 (by omega) (by omega)
    have e20 : mu (mu (heM μ) 256 24 (hB μ)) 256 23 0 = mu (mu (mu (heM μ) 256 24 (hB μ)) 256 23 0) 256 20 (hB μ) := by
      have q := mu_sv (μ := mu (mu (heM μ) 256 24 (hB μ)) 256 23 0) (k := 256) (j := 20)
      rw [mu_j (by decide), mu_j (by decide), heM_20] at q
      exact q.symm
    rw [e20]
    refine l_tnum hm2 (X := X) (E := hE μ) (N := hV μ) ?_ (μ 256 18 - hB μ).toNat (hB μ) 0 (by rw [eL]; omega) (by omega) (by decide) (by rw [eS]; exact e1) (by rw [eS]; exact e2)
    refine V_aloadn (pc := 129) dX12_takeNumber_129 rfl ?_
    refine V_geti (r := 0) (pc := 130) dX12_takeNumber_130 fX12_138 zk_256 ?_
    rw [mu_h]
    refine V_aloadn (pc := 133) dX12_takeNumber_133 rfl ?_
    refine V_geti (r := 0) (pc := 134) dX12_takeNumber_134 fX12_172 zk_256 ?_
    rw [mu_j (by decide : (24 : Nat) ≠ 20)]
    rw [mu_j (by decide : (24 : Nat) ≠ 23)]
    rw [mu_h]
    refine V_isub (pc := 137) dX12_takeNumber_137 ?_
    refine V_iconst (pc := 138) dX12_takeNumber_138 ?_
    refine V_icmp_gt (pc := 139) (tgt := 157) dX12_takeNumber_139 (by decide) (by omega) (by decide) (fun h139 => ?_) (fun h139 => ?_)
    · refine V_aloadn (pc := 157) dX12_takeNumber_157 rfl ?_
      refine V_iconst (pc := 158) dX12_takeNumber_158 ?_
      refine V_aloadn (pc := 159) dX12_takeNumber_159 rfl ?_
      refine V_geti (r := 0) (pc := 160) dX12_takeNumber_160 fX12_172 zk_256 ?_
      rw [mu_j (by decide : (24 : Nat) ≠ 20)]
      rw [mu_j (by decide : (24 : Nat) ≠ 23)]
      rw [mu_h]
      refine V_cv2 (pc := 163) dX12_takeNumber_163 kX12_168 zk_256 (by decide) (Nat.le_of_ble_eq_true rfl) (r_fails) rfl ?_
      refine V_goto (pc := 166) (tgt := 170) dX12_takeNumber_166 (by decide) ?_
      refine V_iret hX dX12_takeNumber_170 rfl ?_
      first | (rw [tkN_0 (by omega) (by omega)]; exact ⟨rfl, rfl⟩) | (rw [tkN_2 (by omega) (by omega)]; exact ⟨rfl, rfl⟩)
    · refine V_aloadn (pc := 142) dX12_takeNumber_142 rfl ?_
      refine V_geti (r := 0) (pc := 143) dX12_takeNumber_143 fX12_175 zk_256 ?_
      rw [mu_j (by decide : (23 : Nat) ≠ 20)]
      rw [mu_h]
      refine V_i2l (pc := 146) dX12_takeNumber_146 (by omega) ?_
      refine V_iloadn (pc := 147) dX12_takeNumber_147 rfl ?_
      refine V_i2l (pc := 148) dX12_takeNumber_148 (by omega) ?_
      refine V_iloadn (pc := 149) dX12_takeNumber_149 rfl ?_
      refine V_i2l (pc := 150) dX12_takeNumber_150 (by omega) ?_
      refine V_cs3 (pc := 151) dX12_takeNumber_151 kX12_121 (by decide) (Nat.le_of_ble_eq_true rfl) (r_in (by omega) (by omega) (by omega)) rfl ?_
      refine V_ifne_b (pc := 154) (tgt := 169) dX12_takeNumber_154 (by decide) (fun h154 => ?_) (fun h154 => ?_)
      · refine V_iconst (pc := 169) dX12_takeNumber_169 ?_
        refine V_iret hX dX12_takeNumber_170 rfl ?_
        first | (rw [tkN_0 (by omega) (by omega)]; exact ⟨rfl, rfl⟩) | (rw [tkN_2 (by omega) (by omega)]; exact ⟨rfl, rfl⟩)
      · refine V_aloadn (pc := 157) dX12_takeNumber_157 rfl ?_
        refine V_iconst (pc := 158) dX12_takeNumber_158 ?_
        refine V_aloadn (pc := 159) dX12_takeNumber_159 rfl ?_
        refine V_geti (r := 0) (pc := 160) dX12_takeNumber_160 fX12_172 zk_256 ?_
        rw [mu_j (by decide : (24 : Nat) ≠ 20)]
        rw [mu_j (by decide : (24 : Nat) ≠ 23)]
        rw [mu_h]
        refine V_cv2 (pc := 163) dX12_takeNumber_163 kX12_168 zk_256 (by decide) (Nat.le_of_ble_eq_true rfl) (r_fails) rfl ?_
        refine V_goto (pc := 166) (tgt := 170) dX12_takeNumber_166 (by decide) ?_
        refine V_iret hX dX12_takeNumber_170 rfl ?_
        first | (rw [tkN_0 (by omega) (by omega)]; exact ⟨rfl, rfl⟩) | (rw [tkN_2 (by omega) (by omega)]; exact ⟨rfl, rfl⟩)
  · refine V_aloadn (pc := 19) dX12_takeNumber_19 rfl ?_
    refine V_iconst (pc := 20) dX12_takeNumber_20 ?_
    refine V_aloadn (pc := 21) dX12_takeNumber_21 rfl ?_
    refine V_geti (r := 0) (pc := 22) dX12_takeNumber_22 fX12_138 zk_256 ?_
    rw [heM_20]
    refine V_cv2 (pc := 25) dX12_takeNumber_25 kX12_168 zk_256 (by decide) (Nat.le_of_ble_eq_true rfl) (r_fails) rfl ?_
    refine V_iret hX dX12_takeNumber_28 rfl ?_
    rw [tkN_1 (by omega)]
    exact ⟨rfl, rfl⟩

def inTo (μ : Mem) (c : Nat) (k l g : Int) : Int × Mem := ((tkN μ l g).1, mu (tkN μ l g).2 c k.toNat ((tkN μ l g).2 256 23))

set_option maxRecDepth 20000 in
theorem r_into {μ : Mem} (h : MX μ) {c N : Nat} (zk_c : zk c = .inr (0, N)) (hN : N ≤ 1000) {k l g : Int} (hk : 0 ≤ k ∧ k < N) (hl : inR l) (hg : inR g) : SP mX12_into [vr 256, vr c, vi k, vi l, vi g] μ (fun w m => w = vi (inTo μ c k l g).1 ∧ m = (inTo μ c k l g).2) := by
  refine SP_intro (ls := [vr 256, vr c, vi k, vi l, vi g, un]) (by decide +kernel) rfl rfl (Nat.le_of_ble_eq_true rfl) rfl (fun X hX => ?_)
  refine V_aloadn (pc := 0) dX12_into_0 rfl ?_
  refine V_iloadn (pc := 1) dX12_into_1 rfl ?_
  refine V_iload (pc := 2) dX12_into_2 rfl ?_
  refine V_cv2 (pc := 4) dX12_into_4 kX12_178 zk_256 (by decide) (Nat.le_of_ble_eq_true rfl) (r_takeNumber h hl hg) rfl ?_
  refine V_istore_5 (pc := 7) dX12_into_7 (by decide) rfl ?_
  refine V_aloadn (pc := 9) dX12_into_9 rfl ?_
  refine V_iloadn (pc := 10) dX12_into_10 rfl ?_
  refine V_aloadn (pc := 11) dX12_into_11 rfl ?_
  refine V_geti (r := 0) (pc := 12) dX12_into_12 fX12_175 zk_256 ?_
  refine V_iast (pc := 15) dX12_into_15 zk_c (by omega) (by omega) (by omega) ?_
  refine V_iload (pc := 16) dX12_into_16 rfl ?_
  refine V_iret hX dX12_into_18 rfl ?_
  exact ⟨rfl, rfl⟩

/-- how many of the roads from r on, n of them, are at p -/
def rAL (μ : Mem) (p : Int) : Nat → Nat → Int → Int
  | 0, _, acc => acc
  | n + 1, r, acc => rAL μ p n (r + 1) (acc + if μ 284 r = p ∨ μ 285 r = p then 1 else 0)
theorem rAL_s {μ : Mem} {p : Int} {n r : Nat} {acc : Int} : rAL μ p (n + 1) r acc = rAL μ p n (r + 1) (acc + if μ 284 r = p ∨ μ 285 r = p then 1 else 0) := rfl
def rAt (μ : Mem) (p : Int) : Int := rAL μ p (μ 256 26).toNat 0 0
theorem rAL_rg {μ : Mem} {p : Int} : ∀ (n r : Nat) (acc : Int), acc ≤ rAL μ p n r acc ∧ rAL μ p n r acc ≤ acc + n := by
  intro n
  induction n with
  | zero => intro r acc; simp [rAL]
  | succ n ih =>
    intro r acc
    rw [rAL_s]
    have := ih (r + 1) (acc + if μ 284 r = p ∨ μ 285 r = p then 1 else 0)
    split at this <;> rename_i hc
    · rw [if_pos hc]; omega
    · rw [if_neg hc]; omega
theorem rAt_rg {μ : Mem} (h : 0 ≤ μ 256 26 ∧ μ 256 26 ≤ 14) (p : Int) : 0 ≤ rAt μ p ∧ rAt μ p ≤ 14 := by
  have := rAL_rg (μ := μ) (p := p) (μ 256 26).toNat 0 0
  unfold rAt
  omega
/-- rows that were read stay in their bounds -/
def RW (μ : Mem) : Prop := (0 ≤ μ 256 26 ∧ μ 256 26 ≤ 14) ∧ ∀ r : Nat, (r : Int) < μ 256 26 → (0 ≤ μ 284 r ∧ μ 284 r < 9) ∧ (0 ≤ μ 285 r ∧ μ 285 r < 9)

set_option maxRecDepth 20000 in
theorem l_readAt {μ : Mem} (h : RW μ) {p : Int} (hp : inR p) {X : ZX} {R : Int} (hX : isM X (fun w m => w = vi R ∧ m = μ)) : ∀ (n : Nat) (acc : Int) (r : Int), (r + n = μ 256 26) → (0 ≤ r) → (rAL μ p n r.toNat acc = R) → V X mX12_readAt 4 [vr 256, vi p, vi acc, vi r] [] μ := by
  intro n
  induction n with
  | zero =>
    intro acc r h1 h0 hR
    obtain ⟨x1, x2⟩ := id h
    refine V_iloadn (pc := 4) dX12_readAt_4 rfl ?_
    refine V_aloadn (pc := 5) dX12_readAt_5 rfl ?_
    refine V_geti (r := 0) (pc := 6) dX12_readAt_6 fX12_181 zk_256 ?_
    refine V_icmp_ge (pc := 9) (tgt := 46) dX12_readAt_9 (by decide) (by omega) (by omega) (fun h9 => ?_) (fun h9 => ?_)
    · refine V_iloadn (pc := 46) dX12_readAt_46 rfl ?_
      refine V_iret hX dX12_readAt_47 rfl ?_
      exact ⟨congrArg vi hR, rfl⟩
    · exfalso; omega
  | succ n ih =>
    intro acc r h1 h0 hR
    obtain ⟨x1, x2⟩ := id h
    have x3 := x2 r.toNat (by omega)
    refine V_iloadn (pc := 4) dX12_readAt_4 rfl ?_
    refine V_aloadn (pc := 5) dX12_readAt_5 rfl ?_
    refine V_geti (r := 0) (pc := 6) dX12_readAt_6 fX12_181 zk_256 ?_
    refine V_icmp_ge (pc := 9) (tgt := 46) dX12_readAt_9 (by decide) (by omega) (by omega) (fun h9 => ?_) (fun h9 => ?_)
    · exfalso; omega
    · refine V_iloadn (pc := 12) dX12_readAt_12 rfl ?_
      refine V_aloadn (pc := 13) dX12_readAt_13 rfl ?_
      refine V_getr (pc := 14) dX12_readAt_14 fX12_56 zk_256 zr_256_27 ?_
      refine V_iloadn (pc := 17) dX12_readAt_17 rfl ?_
      refine V_iald (pc := 18) dX12_readAt_18 zk_284 (by omega) (by omega) (by decide) ?_
      refine V_iloadn (pc := 19) dX12_readAt_19 rfl ?_
      refine V_icmp_eq (pc := 20) (tgt := 33) dX12_readAt_20 (by decide) (by omega) (by omega) (fun h20 => ?_) (fun h20 => ?_)
      · refine V_iconst (pc := 33) dX12_readAt_33 ?_
        refine V_goto (pc := 34) (tgt := 38) dX12_readAt_34 (by decide) ?_
        refine V_iadd (pc := 38) dX12_readAt_38 ?_
        refine V_istore_2 (pc := 39) dX12_readAt_39 (by decide) rfl ?_
        refine V_iinc_3 (pc := 40) dX12_readAt_40 (by decide) rfl ?_
        refine V_goto (pc := 43) (tgt := 4) dX12_readAt_43 (by decide) ?_
        exact ih _ (r + 1) (by omega) (by omega) (by rw [← hR, rAL_s, show (r + 1).toNat = r.toNat + 1 by omega]; first | rw [if_pos (by omega)] | rw [if_neg (by omega)])
      · refine V_aloadn (pc := 23) dX12_readAt_23 rfl ?_
        refine V_getr (pc := 24) dX12_readAt_24 fX12_59 zk_256 zr_256_28 ?_
        refine V_iloadn (pc := 27) dX12_readAt_27 rfl ?_
        refine V_iald (pc := 28) dX12_readAt_28 zk_285 (by omega) (by omega) (by decide) ?_
        refine V_iloadn (pc := 29) dX12_readAt_29 rfl ?_
        refine V_icmp_ne (pc := 30) (tgt := 37) dX12_readAt_30 (by decide) (by omega) (by omega) (fun h30 => ?_) (fun h30 => ?_)
        · refine V_iconst (pc := 37) dX12_readAt_37 ?_
          refine V_iadd (pc := 38) dX12_readAt_38 ?_
          refine V_istore_2 (pc := 39) dX12_readAt_39 (by decide) rfl ?_
          refine V_iinc_3 (pc := 40) dX12_readAt_40 (by decide) rfl ?_
          refine V_goto (pc := 43) (tgt := 4) dX12_readAt_43 (by decide) ?_
          exact ih _ (r + 1) (by omega) (by omega) (by rw [← hR, rAL_s, show (r + 1).toNat = r.toNat + 1 by omega]; first | rw [if_pos (by omega)] | rw [if_neg (by omega)])
        · refine V_iconst (pc := 33) dX12_readAt_33 ?_
          refine V_goto (pc := 34) (tgt := 38) dX12_readAt_34 (by decide) ?_
          refine V_iadd (pc := 38) dX12_readAt_38 ?_
          refine V_istore_2 (pc := 39) dX12_readAt_39 (by decide) rfl ?_
          refine V_iinc_3 (pc := 40) dX12_readAt_40 (by decide) rfl ?_
          refine V_goto (pc := 43) (tgt := 4) dX12_readAt_43 (by decide) ?_
          exact ih _ (r + 1) (by omega) (by omega) (by rw [← hR, rAL_s, show (r + 1).toNat = r.toNat + 1 by omega]; first | rw [if_pos (by omega)] | rw [if_neg (by omega)])

set_option maxRecDepth 20000 in
theorem r_readAt {μ : Mem} (h : RW μ) {p : Int} (hp : inR p) : SP mX12_readAt [vr 256, vi p] μ (fun w m => w = vi (rAt μ p) ∧ m = μ) := by
  refine SP_intro (ls := [vr 256, vi p, un, un]) (by decide +kernel) rfl rfl (Nat.le_of_ble_eq_true rfl) rfl (fun X hX => ?_)
  obtain ⟨x1, x2⟩ := id h
  refine V_iconst (pc := 0) dX12_readAt_0 ?_
  refine V_istore_2 (pc := 1) dX12_readAt_1 (by decide) rfl ?_
  refine V_iconst (pc := 2) dX12_readAt_2 ?_
  refine V_istore_3 (pc := 3) dX12_readAt_3 (by decide) rfl ?_
  exact l_readAt h hp hX (μ 256 26).toNat 0 0 (by omega) (by omega) rfl

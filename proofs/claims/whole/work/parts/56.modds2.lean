theorem SMs_0 {ν : Mem} : ∀ c : Nat, SMs ν c ≤ 0 → c = 0 := by
  intro c h
  cases c with
  | zero => rfl
  | succ c =>
    have h1 : SMs ν (c + 1) = SMs ν c + wt (ν 303 c) := rfl
    have := wt_pos (ν 303 c)
    omega

set_option maxRecDepth 20000 in
theorem l_modds {μ : Mem} (hG : GI μ) (hTn : ∀ p : Nat, (p : Int) < μ 32 0 → 0 < μ (32 + 10) p → μ (80 + 2) p < μ (32 + 10) p) {a t o : Int} (ht : 0 ≤ t ∧ t < μ 32 0) (ho : 0 ≤ o ∧ o ≤ 100) {R : Int} {X : ZX} (hX : isM X (fun w m => w = vi (l2i R) ∧ MOf μ m)) : ∀ (n : Nat) (sum : Int) (y6 y7 : AV) (ν : Mem) (c : Nat), (SMs ν c ≤ n) → (MOf μ ν) → (ν 256 48 = (c : Int)) → (STK μ t ν c) → (c ≤ 64) → (sum + SV μ t o ν c = R) → V X mX12_odds 53 [vr 256, vi a, vi t, vi o, vl sum, un, y6, y7] [] ν := by
  intro n
  induction n with
  | zero =>
    intro sum y6 y7 ν c h1 g1 g2 hS h64 hR
    have hc0 : c = 0 := SMs_0 c h1
    refine V_aloadn (pc := 53) dX12_odds_53 rfl ?_
    refine V_geti (r := 0) (pc := 54) dX12_odds_54 fX12_309 zk_256 ?_
    rw [g2]
    refine V_if_le (pc := 57) (tgt := 78) dX12_odds_57 (by decide) (by omega) (fun h57 => ?_) (fun h57 => ?_)
    · refine V_lload (pc := 78) dX12_odds_78 rfl ?_
      refine V_l2i (pc := 80) dX12_odds_80 ?_
      refine V_iret hX dX12_odds_81 rfl ?_
      have e : sum + SV μ t o ν c = R := hR
      obtain rfl : c = 0 := by omega
      have e2 : SV μ t o ν 0 = 0 := rfl
      exact ⟨congrArg vi (congrArg l2i (by omega)), g1⟩
    · exfalso; omega
  | succ n ih =>
    intro sum y6 y7 ν c h1 g1 g2 hS h64 hR
    refine V_aloadn (pc := 53) dX12_odds_53 rfl ?_
    refine V_geti (r := 0) (pc := 54) dX12_odds_54 fX12_309 zk_256 ?_
    rw [g2]
    refine V_if_le (pc := 57) (tgt := 78) dX12_odds_57 (by decide) (by omega) (fun h57 => ?_) (fun h57 => ?_)
    · refine V_lload (pc := 78) dX12_odds_78 rfl ?_
      refine V_l2i (pc := 80) dX12_odds_80 ?_
      refine V_iret hX dX12_odds_81 rfl ?_
      have e : sum + SV μ t o ν c = R := hR
      obtain rfl : c = 0 := by omega
      have e2 : SV μ t o ν 0 = 0 := rfl
      exact ⟨congrArg vi (congrArg l2i (by omega)), g1⟩
    · obtain ⟨w0, rfl⟩ : ∃ w0, c = w0 + 1 := ⟨c - 1, by omega⟩
      refine V_aloadn (pc := 60) dX12_odds_60 rfl ?_
      refine V_iloadn (pc := 61) dX12_odds_61 rfl ?_
      refine V_iloadn (pc := 62) dX12_odds_62 rfl ?_
      refine V_cq2 (pc := 63) dX12_odds_63 kX12_321 zk_256 (by decide) (Nat.le_of_ble_eq_true rfl) (r_partWay hG hTn ht ho g1 (w0 := w0) g2 hS (by omega)) ?_
      intro w ξ hm
      obtain ⟨come, rfl, c2, q1, q2, q3, q4, q5, q6⟩ := hm
      show V X _ _ _ (vl come :: _) ξ
      refine V_lstore_6 (pc := 66) dX12_odds_66 (by decide) rfl ?_
      refine V_lload (pc := 68) dX12_odds_68 rfl ?_
      refine V_lload (pc := 70) dX12_odds_70 rfl ?_
      refine V_ladd (pc := 72) dX12_odds_72 ?_
      refine V_lstore_4 (pc := 73) dX12_odds_73 (by decide) rfl ?_
      refine V_goto (pc := 75) (tgt := 53) dX12_odds_75 (by decide) ?_
      exact ih _ _ _ ξ c2 (by omega) q1 q2 q3 q6 (by omega)

set_option maxRecDepth 20000 in
theorem r_odds {μ : Mem} (hG : GI μ) (hTn : ∀ p : Nat, (p : Int) < μ 32 0 → 0 < μ (32 + 10) p → μ (80 + 2) p < μ (32 + 10) p) {a t o : Int} (ha : inR a) (ht : inR t) (ho : inR o) : SP mX12_odds [vr 256, vi a, vi t, vi o] μ (fun w m => w = vi (cOdds μ a t o).1 ∧ MOf μ m) := by
  refine SP_intro (ls := [vr 256, vi a, vi t, vi o, un, un, un, un]) (by decide +kernel) rfl rfl (Nat.le_of_ble_eq_true rfl) rfl (fun X hX => ?_)
  obtain ⟨hL, hO, hV, hRM⟩ := id hG
  have r0 : μ 256 0 = μ 32 0 := hRM.1.1
  have hL0 := hL.1
  refine V_aloadn (pc := 0) dX12_odds_0 rfl ?_
  refine V_iloadn (pc := 1) dX12_odds_1 rfl ?_
  refine V_iloadn (pc := 2) dX12_odds_2 rfl ?_
  refine V_cv2 (pc := 3) dX12_odds_3 kX12_247 zk_256 (by decide) (Nat.le_of_ble_eq_true rfl) (r_areTwo (by omega) ha ht) rfl ?_
  refine V_ifne_b (pc := 6) (tgt := 12) dX12_odds_6 (by decide) (fun h6 => ?_) (fun h6 => ?_)
  · refine V_iloadn (pc := 12) dX12_odds_12 rfl ?_
    refine V_i2l (pc := 13) dX12_odds_13 (by omega) ?_
    refine V_lconst0 (pc := 14) dX12_odds_14 ?_
    refine V_ldc2 (pc := 15) (n := 100) dX12_odds_15 nX12_312 (by decide) ?_
    refine V_cs3 (pc := 18) dX12_odds_18 kX12_121 (by decide) (Nat.le_of_ble_eq_true rfl) (r_in (by omega) (by decide) (by decide)) rfl ?_
    refine V_ifne_b (pc := 21) (tgt := 27) dX12_odds_21 (by decide) (fun h21 => ?_) (fun h21 => ?_)
    · refine V_iloadn (pc := 27) dX12_odds_27 rfl ?_
      refine V_iloadn (pc := 28) dX12_odds_28 rfl ?_
      refine V_icmp_ne (pc := 29) (tgt := 36) dX12_odds_29 (by decide) (by omega) (by omega) (fun h29 => ?_) (fun h29 => ?_)
      · refine V_aloadn (pc := 36) dX12_odds_36 rfl ?_
        refine V_iconst (pc := 37) dX12_odds_37 ?_
        refine V_puti (pc := 38) dX12_odds_38 fX12_309 zk_256 ?_
        refine V_aloadn (pc := 41) dX12_odds_41 rfl ?_
        refine V_iloadn (pc := 42) dX12_odds_42 rfl ?_
        refine V_iconst (pc := 43) dX12_odds_43 ?_
        refine V_ldc2 (pc := 44) (n := 1000000000) dX12_odds_44 nX12_319 (by decide) ?_
        refine V_cu3 (pc := 47) dX12_odds_47 kX12_314 zk_256 (by decide) (Nat.le_of_ble_eq_true rfl) (r_addWay (by rw [mu_h]; decide)) ?_
        refine V_lconst0 (pc := 50) dX12_odds_50 ?_
        refine V_lstore_4 (pc := 51) dX12_odds_51 (by decide) rfl ?_
        have hnew := awM_new (ν := mu μ 256 48 0) (x := a) (was := 0) (od := 1000000000)
        have e0 : (mu μ 256 48 0 256 48).toNat = 0 := by rw [mu_h]; rfl
        rw [e0] at hnew
        have hb0 : bitsF 0 = 0 := by decide +kernel
        have h00 : hb 0 a = 0 := by have := hb_0 a.toNat (by omega); rwa [show ((a.toNat : Nat) : Int) = a by omega] at this
        refine l_modds hG hTn (by omega) (by omega) (R := shT μ t o 10 a 0 1000000000 0) ?_ _ 0 _ _ _ 1 (Nat.le_refl _) (MOf_aw (MOf.rf μ).mj) (by rw [hnew.2.2.2, mu_h]; rfl) (fun j hj => ?_) (by decide) ?_
        · have eq : (cOdds μ a t o).1 = l2i (shT μ t o 10 a 0 1000000000 0) := by unfold cOdds; rw [if_pos (by omega), if_pos (by omega)]
          rw [← eq]; exact hX
        · obtain rfl : j = 0 := by omega
          rw [hnew.1, hnew.2.1, hnew.2.2.1]
          exact ⟨by omega, by omega, by decide, h00, by decide, by rw [hb0]; decide⟩
        · show 0 + (0 + vI μ t o _ _ _) = _
          rw [hnew.1, hnew.2.1, hnew.2.2.1]
          unfold vI
          rw [hb0]
          show 0 + (0 + shT μ t o 10 a 0 1000000000 0) = _
          omega
      · refine V_ldcw (pc := 32) (n := 1000000000) dX12_odds_32 nX12_318 (by decide) ?_
        refine V_iret hX dX12_odds_35 rfl ?_
        exact ⟨congrArg vi (by unfold cOdds; rw [if_pos (by omega), if_pos (by omega)]; show _ = l2i _; rw [shT_t (by omega), l2i_id (by decide)]), MOf.rf μ⟩
    · refine V_ldc (pc := 24) (n := -1000000002) dX12_odds_24 nX12_131 (by decide) ?_
      refine V_iret hX dX12_odds_26 rfl ?_
      exact ⟨congrArg vi (by unfold cOdds; rw [if_pos (by omega), if_neg (by omega)]), MOf.rf μ⟩
  · refine V_ldc (pc := 9) (n := -1000000001) dX12_odds_9 nX12_246 (by decide) ?_
    refine V_iret hX dX12_odds_11 rfl ?_
    exact ⟨congrArg vi (by unfold cOdds; rw [if_neg (by omega)]), MOf.rf μ⟩

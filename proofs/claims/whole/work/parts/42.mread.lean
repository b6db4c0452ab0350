theorem iorr_r0 {x : Int} (h : inR x) : iorr x 0 = x := by
  unfold iorr
  rw [show Int32.ofInt x ||| Int32.ofInt 0 = Int32.ofInt x from by rw [show Int32.ofInt 0 = 0 from by decide]; exact Int32.or_zero, zi_to h]
theorem RM.arm {μ : Mem} (hG : GI μ) {p t : Int} (hp : 0 ≤ p ∧ p < μ 32 0) (ht : 0 ≤ t ∧ t < μ 32 0) : μ 269 (9 * p + t).toNat = gArm μ 32 p t ∧ μ 268 (9 * p + t).toNat = (if gFar μ 32 p t = -1 then 1000000 else gFar μ 32 p t) ∧ (-1 ≤ gArm μ 32 p t ∧ gArm μ 32 p t < μ (32 + 10) p.toNat) ∧ (-1 ≤ gFar μ 32 p t ∧ gFar μ 32 p t < 1000000) ∧ (¬ gArm μ 32 p t = -1 → μ 272 (9 * p + t).toNat = pM μ 80 p t) := by
  obtain ⟨hL, hO, hV, hR⟩ := id hG
  have e : (9 * p + t).toNat = p.toNat * 9 + t.toNat := by omega
  have e2 : (p * 9 + t).toNat = p.toNat * 9 + t.toNat := by omega
  have h1 := hR.2.2.2.2.1 p.toNat t.toNat (by omega) (by omega)
  have h2 := hV.2.2.1 p.toNat t.toNat (by omega) (by omega)
  have h3 := hR.2.2.2.2.2.2 p.toNat t.toNat (by omega) (by omega)
  have ea : gArm μ 32 p t = μ (32 + 13) (p.toNat * 9 + t.toNat) := by unfold gArm; rw [if_pos ⟨hp, ht⟩, e2]
  have ef : gFar μ 32 p t = μ (32 + 12) (p.toNat * 9 + t.toNat) := by unfold gFar; rw [if_pos ⟨hp, ht⟩, e2]
  have em : pM μ 80 p t = μ (80 + 4) (p.toNat * 9 + t.toNat) := by unfold pM; rw [if_pos ⟨hp, ht⟩, e2]
  rw [ea, ef, em, e]
  exact ⟨h1.1, h1.2, ⟨h2.1, h2.2.1⟩, h2.2.2, h3⟩
theorem RM.sd {μ : Mem} (hG : GI μ) {p : Int} (hp : 0 ≤ p ∧ p < μ 32 0) : μ 266 p.toNat = μ (32 + 10) p.toNat ∧ μ 270 p.toNat = μ (80 + 2) p.toNat ∧ μ 271 p.toNat = μ (80 + 3) p.toNat ∧ gSd μ 32 p = μ (32 + 10) p.toNat ∧ pT μ 80 p = μ (80 + 2) p.toNat ∧ pF μ 80 p = μ (80 + 3) p.toNat := by
  obtain ⟨hL, hO, hV, hR⟩ := id hG
  have h1 := hR.2.2.2.1 p.toNat (by omega)
  have h2 := hR.2.2.2.2.2.1 p.toNat (by omega)
  unfold gSd pT pF
  rw [if_pos hp, if_pos hp, if_pos hp]
  exact ⟨h1.1, h2.1, h2.2, rfl, rfl, rfl⟩
theorem hb_0 (k : Nat) (hk : k < 31) : hb 0 (k : Int) = 0 := by
  have := hb_nn (n := 0) (k := k) (by omega) (by decide)
  rw [show ((0 : Nat) : Int) = 0 from rfl] at this
  rw [this, Nat.zero_testBit]; rfl
theorem aT_0 {μ : Mem} (hG : GI μ) {p t : Int} (hp : 0 ≤ p ∧ p < μ 32 0) (ht : 0 ≤ t ∧ t < μ 32 0) : (aT μ 80 p t 0 = -1 ↔ gArm μ 32 p t = -1 ∨ hb (μ (80 + 3) p.toNat) (gArm μ 32 p t) = 1) ∧ (¬ aT μ 80 p t 0 = -1 → aT μ 80 p t 0 = gArm μ 32 p t) := by
  obtain ⟨hL, hO, hV, hR⟩ := id hG
  obtain ⟨hL0, hL1, hL2, hL3, hL4⟩ := id hL
  have a := RM.arm hG hp ht
  have s := hL3 p.toNat
  have h0 : ¬ In 0 p := fun z => by
    have := hb_0 p.toNat (by omega)
    rw [show ((p.toNat : Nat) : Int) = p by omega] at this
    exact z.2.2 this
  unfold aT
  by_cases c : gArm μ 32 p t = -1
  · rw [if_neg (fun z => z.1 c)]; exact ⟨⟨fun h => Or.inl h, fun _ => c⟩, fun _ => rfl⟩
  · have i := In_iff (s := μ (80 + 3) p.toNat) (k := gArm μ 32 p t) (by omega)
    by_cases d : hb (μ (80 + 3) p.toNat) (gArm μ 32 p t) = 1
    · rw [if_pos ⟨c, ⟨hp, i.mpr d⟩, h0⟩]; exact ⟨⟨fun _ => Or.inr d, fun _ => rfl⟩, fun h => absurd rfl h⟩
    · rw [if_neg (fun z => d (i.mp z.2.1.2))]; exact ⟨⟨fun h => absurd h c, fun h => by omega⟩, fun _ => rfl⟩

set_option maxRecDepth 20000 in
theorem r_isTold {μ : Mem} (hG : GI μ) {p t : Int} (hp : 0 ≤ p ∧ p < μ 32 0) (ht : 0 ≤ t ∧ t < μ 32 0) : SP mX12_isTold [vr 256, vi p, vi t] μ (fun w m => w = vi (bi (¬ aT μ 80 p t 0 = -1)) ∧ m = μ) := by
  refine SP_intro (ls := [vr 256, vi p, vi t, un]) (by decide +kernel) rfl rfl (Nat.le_of_ble_eq_true rfl) rfl (fun X hX => ?_)
  obtain ⟨hL, hO, hV, hR⟩ := id hG
  obtain ⟨hL0, hL1, hL2, hL3, hL4⟩ := id hL
  obtain ⟨⟨r0, r1, r2⟩, hR1, hR2, hR3, hR4, hR5, hR6⟩ := id hR
  have a := RM.arm hG hp ht
  have d := RM.sd hG hp
  have z := aT_0 hG hp ht
  have s := hL3 p.toNat
  refine V_aloadn (pc := 0) dX12_isTold_0 rfl ?_
  refine V_getr (pc := 1) dX12_isTold_1 fX12_37 zk_256 zr_256_12 ?_
  refine V_bipush (pc := 4) dX12_isTold_4 (by decide +kernel) ?_
  refine V_iloadn (pc := 6) dX12_isTold_6 rfl ?_
  refine V_imul (pc := 7) dX12_isTold_7 ?_
  refine V_iloadn (pc := 8) dX12_isTold_8 rfl ?_
  refine V_iadd (pc := 9) dX12_isTold_9 ?_
  refine V_iald (pc := 10) dX12_isTold_10 zk_269 (by omega) (by omega) (by decide) ?_
  rw [a.1]
  refine V_istore_3 (pc := 11) dX12_isTold_11 (by decide) rfl ?_
  refine V_iloadn (pc := 12) dX12_isTold_12 rfl ?_
  refine V_if_lt (pc := 13) (tgt := 33) dX12_isTold_13 (by decide) (by omega) (fun h13 => ?_) (fun h13 => ?_)
  · refine V_iconst (pc := 33) dX12_isTold_33 ?_
    refine V_zret hX dX12_isTold_34 rfl (by first | exact Or.inl rfl | exact Or.inr rfl | exact bi_01 _) ?_
    exact ⟨congrArg vi (by first | (exfalso; omega) | rw [bi_pos (by omega)] | rw [bi_neg (by omega)]), rfl⟩
  · refine V_aloadn (pc := 16) dX12_isTold_16 rfl ?_
    refine V_getr (pc := 17) dX12_isTold_17 fX12_43 zk_256 zr_256_14 ?_
    refine V_iloadn (pc := 20) dX12_isTold_20 rfl ?_
    refine V_iald (pc := 21) dX12_isTold_21 zk_271 (by omega) (by omega) (by decide) ?_
    rw [d.2.2.1]
    refine V_iloadn (pc := 22) dX12_isTold_22 rfl ?_
    refine V_cs2 (pc := 23) dX12_isTold_23 kX12_260 (by decide) (Nat.le_of_ble_eq_true rfl) (r_has) rfl ?_
    refine V_ifne_b (pc := 26) (tgt := 33) dX12_isTold_26 (by decide) (fun h26 => ?_) (fun h26 => ?_)
    · refine V_iconst (pc := 33) dX12_isTold_33 ?_
      refine V_zret hX dX12_isTold_34 rfl (by first | exact Or.inl rfl | exact Or.inr rfl | exact bi_01 _) ?_
      exact ⟨congrArg vi (by first | (exfalso; omega) | rw [bi_pos (by omega)] | rw [bi_neg (by omega)]), rfl⟩
    · refine V_iconst (pc := 29) dX12_isTold_29 ?_
      refine V_goto (pc := 30) (tgt := 34) dX12_isTold_30 (by decide) ?_
      refine V_zret hX dX12_isTold_34 rfl (by first | exact Or.inl rfl | exact Or.inr rfl | exact bi_01 _) ?_
      exact ⟨congrArg vi (by first | (exfalso; omega) | rw [bi_pos (by omega)] | rw [bi_neg (by omega)]), rfl⟩

set_option maxRecDepth 20000 in
theorem l_mturned {μ : Mem} (hG : GI μ) {X : ZX} {R : Int} (hX : isM X (fun w m => w = vi R ∧ m = μ)) : ∀ (n : Nat) (p acc : Int), (p + n = μ 32 0) → (0 ≤ p) → (inR acc) → (sb (fun p => ¬ pT μ 80 p = 0) n p acc = R) → V X mX12_turnedSet 4 [vr 256, vi acc, vi p] [] μ := by
  intro n
  induction n with
  | zero =>
    intro p acc h1 h2 h3 hR0
    obtain ⟨hL, hO, hV, hR⟩ := id hG
    obtain ⟨hL0, hL1, hL2, hL3, hL4⟩ := id hL
    obtain ⟨⟨r0, r1, r2⟩, hR1, hR2, hR3, hR4, hR5, hR6⟩ := id hR
    have hz := pT_rg hO p
    refine V_iloadn (pc := 4) dX12_turnedSet_4 rfl ?_
    refine V_aloadn (pc := 5) dX12_turnedSet_5 rfl ?_
    refine V_geti (r := 0) (pc := 6) dX12_turnedSet_6 fX12_118 zk_256 ?_
    rw [r0]
    refine V_icmp_ge (pc := 9) (tgt := 37) dX12_turnedSet_9 (by decide) (by omega) (by omega) (fun h9 => ?_) (fun h9 => ?_)
    · refine V_iloadn (pc := 37) dX12_turnedSet_37 rfl ?_
      refine V_iret hX dX12_turnedSet_38 rfl ?_
      exact ⟨congrArg vi hR0, rfl⟩
    · exfalso; omega
  | succ n ih =>
    intro p acc h1 h2 h3 hR0
    obtain ⟨hL, hO, hV, hR⟩ := id hG
    obtain ⟨hL0, hL1, hL2, hL3, hL4⟩ := id hL
    obtain ⟨⟨r0, r1, r2⟩, hR1, hR2, hR3, hR4, hR5, hR6⟩ := id hR
    have hz := pT_rg hO p
    have d := RM.sd hG (p := p) (by omega)
    refine V_iloadn (pc := 4) dX12_turnedSet_4 rfl ?_
    refine V_aloadn (pc := 5) dX12_turnedSet_5 rfl ?_
    refine V_geti (r := 0) (pc := 6) dX12_turnedSet_6 fX12_118 zk_256 ?_
    rw [r0]
    refine V_icmp_ge (pc := 9) (tgt := 37) dX12_turnedSet_9 (by decide) (by omega) (by omega) (fun h9 => ?_) (fun h9 => ?_)
    · exfalso; omega
    · refine V_iloadn (pc := 12) dX12_turnedSet_12 rfl ?_
      refine V_aloadn (pc := 13) dX12_turnedSet_13 rfl ?_
      refine V_getr (pc := 14) dX12_turnedSet_14 fX12_40 zk_256 zr_256_13 ?_
      refine V_iloadn (pc := 17) dX12_turnedSet_17 rfl ?_
      refine V_iald (pc := 18) dX12_turnedSet_18 zk_270 (by omega) (by omega) (by decide) ?_
      rw [d.2.1]
      refine V_if_ne (pc := 19) (tgt := 26) dX12_turnedSet_19 (by decide) (by omega) (fun h19 => ?_) (fun h19 => ?_)
      · refine V_iconst (pc := 26) dX12_turnedSet_26 ?_
        refine V_iloadn (pc := 27) dX12_turnedSet_27 rfl ?_
        refine V_ishl (pc := 28) dX12_turnedSet_28 ?_
        refine V_ior (pc := 29) dX12_turnedSet_29 ?_
        refine V_istore_1 (pc := 30) dX12_turnedSet_30 (by decide) rfl ?_
        refine V_iinc_2 (pc := 31) dX12_turnedSet_31 (by decide) rfl ?_
        refine V_goto (pc := 34) (tgt := 4) dX12_turnedSet_34 (by decide) ?_
        exact ih _ _ (by omega) (by omega) (zi_rg _) (by rw [← hR0, sb_s]; first | (rw [if_pos (by omega)]; done) | rw [if_neg (by omega), iorr_r0 h3])
      · refine V_iconst (pc := 22) dX12_turnedSet_22 ?_
        refine V_goto (pc := 23) (tgt := 29) dX12_turnedSet_23 (by decide) ?_
        refine V_ior (pc := 29) dX12_turnedSet_29 ?_
        refine V_istore_1 (pc := 30) dX12_turnedSet_30 (by decide) rfl ?_
        refine V_iinc_2 (pc := 31) dX12_turnedSet_31 (by decide) rfl ?_
        refine V_goto (pc := 34) (tgt := 4) dX12_turnedSet_34 (by decide) ?_
        exact ih _ _ (by omega) (by omega) (zi_rg _) (by rw [← hR0, sb_s]; first | (rw [if_pos (by omega)]; done) | rw [if_neg (by omega), iorr_r0 h3])

set_option maxRecDepth 20000 in
theorem r_turnedSet {μ : Mem} (hG : GI μ) : SP mX12_turnedSet [vr 256] μ (fun w m => w = vi (sb (fun p => ¬ pT μ 80 p = 0) (μ 32 0).toNat 0 0) ∧ m = μ) := by
  refine SP_intro (ls := [vr 256, un, un]) (by decide +kernel) rfl rfl (Nat.le_of_ble_eq_true rfl) rfl (fun X hX => ?_)
  obtain ⟨hL, hO, hV, hR⟩ := id hG
  obtain ⟨hL0, hL1, hL2, hL3, hL4⟩ := id hL
  obtain ⟨⟨r0, r1, r2⟩, hR1, hR2, hR3, hR4, hR5, hR6⟩ := id hR
  refine V_iconst (pc := 0) dX12_turnedSet_0 ?_
  refine V_istore_1 (pc := 1) dX12_turnedSet_1 (by decide) rfl ?_
  refine V_iconst (pc := 2) dX12_turnedSet_2 ?_
  refine V_istore_2 (pc := 3) dX12_turnedSet_3 (by decide) rfl ?_
  exact l_mturned hG hX (μ 32 0).toNat 0 0 (by omega) (by omega) (by decide) rfl

set_option maxRecDepth 20000 in
theorem l_toldBy {μ : Mem} (hG : GI μ) {p i : Int} (hp : 0 ≤ p ∧ p < μ 32 0) (hi : inR i) {X : ZX} {R : Int} (hX : isM X (fun w m => w = vi R ∧ m = μ)) : ∀ (n : Nat) (t acc : Int), (t + n = μ 32 0) → (0 ≤ t) → (inR acc) → (sb (fun t => gArm μ 32 p t = i) n t acc = R) → V X mX12_toldBy 5 [vr 256, vi p, vi i, vi acc, vi t] [] μ := by
  intro n
  induction n with
  | zero =>
    intro t acc h1 h2 h3 hR0
    obtain ⟨hL, hO, hV, hR⟩ := id hG
    obtain ⟨hL0, hL1, hL2, hL3, hL4⟩ := id hL
    obtain ⟨⟨r0, r1, r2⟩, hR1, hR2, hR3, hR4, hR5, hR6⟩ := id hR
    refine V_iload (pc := 5) dX12_toldBy_5 rfl ?_
    refine V_aloadn (pc := 7) dX12_toldBy_7 rfl ?_
    refine V_geti (r := 0) (pc := 8) dX12_toldBy_8 fX12_118 zk_256 ?_
    rw [r0]
    refine V_icmp_ge (pc := 11) (tgt := 47) dX12_toldBy_11 (by decide) (by omega) (by omega) (fun h11 => ?_) (fun h11 => ?_)
    · refine V_iloadn (pc := 47) dX12_toldBy_47 rfl ?_
      refine V_iret hX dX12_toldBy_48 rfl ?_
      exact ⟨congrArg vi hR0, rfl⟩
    · exfalso; omega
  | succ n ih =>
    intro t acc h1 h2 h3 hR0
    obtain ⟨hL, hO, hV, hR⟩ := id hG
    obtain ⟨hL0, hL1, hL2, hL3, hL4⟩ := id hL
    obtain ⟨⟨r0, r1, r2⟩, hR1, hR2, hR3, hR4, hR5, hR6⟩ := id hR
    have a := RM.arm hG hp (t := t) (by omega)
    have s := hL3 p.toNat
    refine V_iload (pc := 5) dX12_toldBy_5 rfl ?_
    refine V_aloadn (pc := 7) dX12_toldBy_7 rfl ?_
    refine V_geti (r := 0) (pc := 8) dX12_toldBy_8 fX12_118 zk_256 ?_
    rw [r0]
    refine V_icmp_ge (pc := 11) (tgt := 47) dX12_toldBy_11 (by decide) (by omega) (by omega) (fun h11 => ?_) (fun h11 => ?_)
    · exfalso; omega
    · refine V_iloadn (pc := 14) dX12_toldBy_14 rfl ?_
      refine V_aloadn (pc := 15) dX12_toldBy_15 rfl ?_
      refine V_getr (pc := 16) dX12_toldBy_16 fX12_37 zk_256 zr_256_12 ?_
      refine V_bipush (pc := 19) dX12_toldBy_19 (by decide +kernel) ?_
      refine V_iloadn (pc := 21) dX12_toldBy_21 rfl ?_
      refine V_imul (pc := 22) dX12_toldBy_22 ?_
      refine V_iload (pc := 23) dX12_toldBy_23 rfl ?_
      refine V_iadd (pc := 25) dX12_toldBy_25 ?_
      refine V_iald (pc := 26) dX12_toldBy_26 zk_269 (by omega) (by omega) (by decide) ?_
      rw [a.1]
      refine V_iloadn (pc := 27) dX12_toldBy_27 rfl ?_
      refine V_icmp_ne (pc := 28) (tgt := 38) dX12_toldBy_28 (by decide) (by omega) (by omega) (fun h28 => ?_) (fun h28 => ?_)
      · refine V_iconst (pc := 38) dX12_toldBy_38 ?_
        refine V_ior (pc := 39) dX12_toldBy_39 ?_
        refine V_istore_3 (pc := 40) dX12_toldBy_40 (by decide) rfl ?_
        refine V_iinc_4 (pc := 41) dX12_toldBy_41 (by decide) rfl ?_
        refine V_goto (pc := 44) (tgt := 5) dX12_toldBy_44 (by decide) ?_
        exact ih _ _ (by omega) (by omega) (zi_rg _) (by rw [← hR0, sb_s]; first | (rw [if_pos (by omega)]; done) | rw [if_neg (by omega), iorr_r0 h3])
      · refine V_iconst (pc := 31) dX12_toldBy_31 ?_
        refine V_iload (pc := 32) dX12_toldBy_32 rfl ?_
        refine V_ishl (pc := 34) dX12_toldBy_34 ?_
        refine V_goto (pc := 35) (tgt := 39) dX12_toldBy_35 (by decide) ?_
        refine V_ior (pc := 39) dX12_toldBy_39 ?_
        refine V_istore_3 (pc := 40) dX12_toldBy_40 (by decide) rfl ?_
        refine V_iinc_4 (pc := 41) dX12_toldBy_41 (by decide) rfl ?_
        refine V_goto (pc := 44) (tgt := 5) dX12_toldBy_44 (by decide) ?_
        exact ih _ _ (by omega) (by omega) (zi_rg _) (by rw [← hR0, sb_s]; first | (rw [if_pos (by omega)]; done) | rw [if_neg (by omega), iorr_r0 h3])

set_option maxRecDepth 20000 in
theorem r_toldBy {μ : Mem} (hG : GI μ) {p i : Int} (hp : 0 ≤ p ∧ p < μ 32 0) (hi : inR i) : SP mX12_toldBy [vr 256, vi p, vi i] μ (fun w m => w = vi (sb (fun t => gArm μ 32 p t = i) (μ 32 0).toNat 0 0) ∧ m = μ) := by
  refine SP_intro (ls := [vr 256, vi p, vi i, un, un]) (by decide +kernel) rfl rfl (Nat.le_of_ble_eq_true rfl) rfl (fun X hX => ?_)
  obtain ⟨hL, hO, hV, hR⟩ := id hG
  obtain ⟨hL0, hL1, hL2, hL3, hL4⟩ := id hL
  obtain ⟨⟨r0, r1, r2⟩, hR1, hR2, hR3, hR4, hR5, hR6⟩ := id hR
  refine V_iconst (pc := 0) dX12_toldBy_0 ?_
  refine V_istore_3 (pc := 1) dX12_toldBy_1 (by decide) rfl ?_
  refine V_iconst (pc := 2) dX12_toldBy_2 ?_
  refine V_istore_4 (pc := 3) dX12_toldBy_3 (by decide) rfl ?_
  exact l_toldBy hG hp hi hX (μ 32 0).toNat 0 0 (by omega) (by omega) (by decide) rfl

set_option maxRecDepth 20000 in
theorem r_road {μ : Mem} (hG : GI μ) {r u : Int} (hr : inR r) (hu : inR u) : SP mX12_road [vr 256, vi r, vi u] μ (fun w m => w = vi (cRoad μ r u) ∧ m = μ) := by
  refine SP_intro (ls := [vr 256, vi r, vi u]) (by decide +kernel) rfl rfl (Nat.le_of_ble_eq_true rfl) rfl (fun X hX => ?_)
  obtain ⟨hL, hO, hV, hR⟩ := id hG
  obtain ⟨hL0, hL1, hL2, hL3, hL4⟩ := id hL
  obtain ⟨⟨r0, r1, r2⟩, hR1, hR2, hR3, hR4, hR5, hR6⟩ := id hR
  refine V_iloadn (pc := 0) dX12_road_0 rfl ?_
  refine V_i2l (pc := 1) dX12_road_1 (by omega) ?_
  refine V_lconst0 (pc := 2) dX12_road_2 ?_
  refine V_aloadn (pc := 3) dX12_road_3 rfl ?_
  refine V_geti (r := 0) (pc := 4) dX12_road_4 fX12_218 zk_256 ?_
  refine V_iconst (pc := 7) dX12_road_7 ?_
  refine V_isub (pc := 8) dX12_road_8 ?_
  refine V_i2l (pc := 9) dX12_road_9 (by omega) ?_
  refine V_cs3 (pc := 10) dX12_road_10 kX12_121 (by decide) (Nat.le_of_ble_eq_true rfl) (r_in (by omega) (by omega) (by omega)) rfl ?_
  refine V_ifne_b (pc := 13) (tgt := 19) dX12_road_13 (by decide) (fun h13 => ?_) (fun h13 => ?_)
  · have w1 := hR.road (r := r) (by omega)
    have w2 : gOne μ 32 r = μ (32 + 4) r.toNat ∧ gTwo μ 32 r = μ (32 + 5) r.toNat ∧ gLn μ 32 r = μ (32 + 6) r.toNat := by unfold gOne gTwo gLn; rw [if_pos (by omega), if_pos (by omega), if_pos (by omega)]; exact ⟨rfl, rfl, rfl⟩
    refine V_iloadn (pc := 19) dX12_road_19 rfl ?_
    refine V_if_ne (pc := 20) (tgt := 32) dX12_road_20 (by decide) (by omega) (fun h20 => ?_) (fun h20 => ?_)
    · refine V_iloadn (pc := 32) dX12_road_32 rfl ?_
      refine V_iconst (pc := 33) dX12_road_33 ?_
      refine V_icmp_ne (pc := 34) (tgt := 46) dX12_road_34 (by decide) (by omega) (by decide) (fun h34 => ?_) (fun h34 => ?_)
      · refine V_iloadn (pc := 46) dX12_road_46 rfl ?_
        refine V_iconst (pc := 47) dX12_road_47 ?_
        refine V_icmp_ne (pc := 48) (tgt := 60) dX12_road_48 (by decide) (by omega) (by decide) (fun h48 => ?_) (fun h48 => ?_)
        · refine V_ldc (pc := 60) (n := -1000000002) dX12_road_60 nX12_131 (by decide) ?_
          refine V_iret hX dX12_road_62 rfl ?_
          exact ⟨congrArg vi (by unfold cRoad; (repeat (first | rw [if_pos (by omega)] | rw [if_neg (by omega)])); try omega), rfl⟩
        · refine V_aloadn (pc := 51) dX12_road_51 rfl ?_
          refine V_getr (pc := 52) dX12_road_52 fX12_16 zk_256 zr_256_4 ?_
          refine V_iloadn (pc := 55) dX12_road_55 rfl ?_
          refine V_iald (pc := 56) dX12_road_56 zk_261 (by omega) (by omega) (by decide) ?_
          refine V_goto (pc := 57) (tgt := 62) dX12_road_57 (by decide) ?_
          refine V_iret hX dX12_road_62 rfl ?_
          exact ⟨congrArg vi (by unfold cRoad; (repeat (first | rw [if_pos (by omega)] | rw [if_neg (by omega)])); try omega), rfl⟩
      · refine V_aloadn (pc := 37) dX12_road_37 rfl ?_
        refine V_getr (pc := 38) dX12_road_38 fX12_13 zk_256 zr_256_3 ?_
        refine V_iloadn (pc := 41) dX12_road_41 rfl ?_
        refine V_iald (pc := 42) dX12_road_42 zk_260 (by omega) (by omega) (by decide) ?_
        refine V_goto (pc := 43) (tgt := 62) dX12_road_43 (by decide) ?_
        refine V_iret hX dX12_road_62 rfl ?_
        exact ⟨congrArg vi (by unfold cRoad; (repeat (first | rw [if_pos (by omega)] | rw [if_neg (by omega)])); try omega), rfl⟩
    · refine V_aloadn (pc := 23) dX12_road_23 rfl ?_
      refine V_getr (pc := 24) dX12_road_24 fX12_7 zk_256 zr_256_2 ?_
      refine V_iloadn (pc := 27) dX12_road_27 rfl ?_
      refine V_iald (pc := 28) dX12_road_28 zk_259 (by omega) (by omega) (by decide) ?_
      refine V_goto (pc := 29) (tgt := 62) dX12_road_29 (by decide) ?_
      refine V_iret hX dX12_road_62 rfl ?_
      exact ⟨congrArg vi (by unfold cRoad; (repeat (first | rw [if_pos (by omega)] | rw [if_neg (by omega)])); try omega), rfl⟩
  · refine V_ldc (pc := 16) (n := -1000000001) dX12_road_16 nX12_246 (by decide) ?_
    refine V_iret hX dX12_road_18 rfl ?_
    exact ⟨congrArg vi (by unfold cRoad; (repeat (first | rw [if_pos (by omega)] | rw [if_neg (by omega)])); try omega), rfl⟩

set_option maxRecDepth 20000 in
theorem r_far {μ : Mem} (hG : GI μ) {a b : Int} (ha : inR a) (hb : inR b) : SP mX12_far [vr 256, vi a, vi b] μ (fun w m => w = vi (cFar μ a b) ∧ m = μ) := by
  refine SP_intro (ls := [vr 256, vi a, vi b]) (by decide +kernel) rfl rfl (Nat.le_of_ble_eq_true rfl) rfl (fun X hX => ?_)
  obtain ⟨hL, hO, hV, hR⟩ := id hG
  obtain ⟨hL0, hL1, hL2, hL3, hL4⟩ := id hL
  obtain ⟨⟨r0, r1, r2⟩, hR1, hR2, hR3, hR4, hR5, hR6⟩ := id hR
  refine V_aloadn (pc := 0) dX12_far_0 rfl ?_
  refine V_iloadn (pc := 1) dX12_far_1 rfl ?_
  refine V_iloadn (pc := 2) dX12_far_2 rfl ?_
  refine V_cv2 (pc := 3) dX12_far_3 kX12_247 zk_256 (by decide) (Nat.le_of_ble_eq_true rfl) (r_areTwo (by rw [r0]; exact hL0) (by omega) (by omega)) rfl ?_
  rw [bi_cg (show ((0 ≤ a ∧ a < μ 256 0) ∧ 0 ≤ b ∧ b < μ 256 0) ↔ ((0 ≤ a ∧ a < μ 32 0) ∧ 0 ≤ b ∧ b < μ 32 0) by rw [r0])]
  refine V_ifne_b (pc := 6) (tgt := 12) dX12_far_6 (by decide) (fun h6 => ?_) (fun h6 => ?_)
  · have w := RM.arm hG (p := a) (t := b) (by omega) (by omega)
    have w2 := w.2.1
    refine V_aloadn (pc := 12) dX12_far_12 rfl ?_
    refine V_getr (pc := 13) dX12_far_13 fX12_34 zk_256 zr_256_11 ?_
    refine V_bipush (pc := 16) dX12_far_16 (by decide +kernel) ?_
    refine V_iloadn (pc := 18) dX12_far_18 rfl ?_
    refine V_imul (pc := 19) dX12_far_19 ?_
    refine V_iloadn (pc := 20) dX12_far_20 rfl ?_
    refine V_iadd (pc := 21) dX12_far_21 ?_
    refine V_iald (pc := 22) dX12_far_22 zk_268 (by omega) (by omega) (by decide) ?_
    refine V_ldc (pc := 23) (n := 1000000) dX12_far_23 nX12_236 (by decide) ?_
    refine V_icmp_lt (pc := 25) (tgt := 32) dX12_far_25 (by decide) (by omega) (by decide) (fun h25 => ?_) (fun h25 => ?_)
    · refine V_aloadn (pc := 32) dX12_far_32 rfl ?_
      refine V_getr (pc := 33) dX12_far_33 fX12_34 zk_256 zr_256_11 ?_
      refine V_bipush (pc := 36) dX12_far_36 (by decide +kernel) ?_
      refine V_iloadn (pc := 38) dX12_far_38 rfl ?_
      refine V_imul (pc := 39) dX12_far_39 ?_
      refine V_iloadn (pc := 40) dX12_far_40 rfl ?_
      refine V_iadd (pc := 41) dX12_far_41 ?_
      refine V_iald (pc := 42) dX12_far_42 zk_268 (by omega) (by omega) (by decide) ?_
      refine V_iret hX dX12_far_43 rfl ?_
      exact ⟨congrArg vi (by unfold cFar; (repeat (first | rw [if_pos (show (0 ≤ a ∧ a < μ 32 0) ∧ (0 ≤ b ∧ b < μ 32 0) by omega)] | rw [if_neg (show ¬ ((0 ≤ a ∧ a < μ 32 0) ∧ (0 ≤ b ∧ b < μ 32 0)) by omega)])); try (split at w2 <;> omega)), rfl⟩
    · refine V_iconst (pc := 28) dX12_far_28 ?_
      refine V_goto (pc := 29) (tgt := 43) dX12_far_29 (by decide) ?_
      refine V_iret hX dX12_far_43 rfl ?_
      exact ⟨congrArg vi (by unfold cFar; (repeat (first | rw [if_pos (show (0 ≤ a ∧ a < μ 32 0) ∧ (0 ≤ b ∧ b < μ 32 0) by omega)] | rw [if_neg (show ¬ ((0 ≤ a ∧ a < μ 32 0) ∧ (0 ≤ b ∧ b < μ 32 0)) by omega)])); try (split at w2 <;> omega)), rfl⟩
  · refine V_ldc (pc := 9) (n := -1000000001) dX12_far_9 nX12_246 (by decide) ?_
    refine V_iret hX dX12_far_11 rfl ?_
    exact ⟨congrArg vi (by unfold cFar; (repeat (first | rw [if_pos (show (0 ≤ a ∧ a < μ 32 0) ∧ (0 ≤ b ∧ b < μ 32 0) by omega)] | rw [if_neg (show ¬ ((0 ≤ a ∧ a < μ 32 0) ∧ (0 ≤ b ∧ b < μ 32 0)) by omega)])); try (split at w2 <;> omega)), rfl⟩

set_option maxRecDepth 20000 in
theorem r_post {μ : Mem} (hG : GI μ) {p u : Int} (hp : inR p) (hu : inR u) : SP mX12_post [vr 256, vi p, vi u] μ (fun w m => w = vi (cPost μ p u) ∧ m = μ) := by
  refine SP_intro (ls := [vr 256, vi p, vi u]) (by decide +kernel) rfl rfl (Nat.le_of_ble_eq_true rfl) rfl (fun X hX => ?_)
  obtain ⟨hL, hO, hV, hR⟩ := id hG
  obtain ⟨hL0, hL1, hL2, hL3, hL4⟩ := id hL
  obtain ⟨⟨r0, r1, r2⟩, hR1, hR2, hR3, hR4, hR5, hR6⟩ := id hR
  refine V_aloadn (pc := 0) dX12_post_0 rfl ?_
  refine V_iloadn (pc := 1) dX12_post_1 rfl ?_
  refine V_cv1 (pc := 2) dX12_post_2 kX12_125 zk_256 (by decide) (Nat.le_of_ble_eq_true rfl) (r_isPlace (by rw [r0]; exact hL0) (by omega)) rfl ?_
  rw [bi_cg (show (0 ≤ p ∧ p < μ 256 0) ↔ (0 ≤ p ∧ p < μ 32 0) by rw [r0])]
  refine V_ifne_b (pc := 5) (tgt := 11) dX12_post_5 (by decide) (fun h5 => ?_) (fun h5 => ?_)
  · have d := RM.sd hG (p := p) (by omega)
    refine V_iloadn (pc := 11) dX12_post_11 rfl ?_
    refine V_if_ne (pc := 12) (tgt := 24) dX12_post_12 (by decide) (by omega) (fun h12 => ?_) (fun h12 => ?_)
    · refine V_iloadn (pc := 24) dX12_post_24 rfl ?_
      refine V_iconst (pc := 25) dX12_post_25 ?_
      refine V_icmp_ne (pc := 26) (tgt := 38) dX12_post_26 (by decide) (by omega) (by decide) (fun h26 => ?_) (fun h26 => ?_)
      · refine V_iloadn (pc := 38) dX12_post_38 rfl ?_
        refine V_iconst (pc := 39) dX12_post_39 ?_
        refine V_icmp_ne (pc := 40) (tgt := 52) dX12_post_40 (by decide) (by omega) (by decide) (fun h40 => ?_) (fun h40 => ?_)
        · refine V_ldc (pc := 52) (n := -1000000002) dX12_post_52 nX12_131 (by decide) ?_
          refine V_iret hX dX12_post_54 rfl ?_
          exact ⟨congrArg vi (by unfold cPost; (repeat (first | rw [if_pos (by omega)] | rw [if_neg (by omega)])); try omega), rfl⟩
        · refine V_aloadn (pc := 43) dX12_post_43 rfl ?_
          refine V_getr (pc := 44) dX12_post_44 fX12_43 zk_256 zr_256_14 ?_
          refine V_iloadn (pc := 47) dX12_post_47 rfl ?_
          refine V_iald (pc := 48) dX12_post_48 zk_271 (by omega) (by omega) (by decide) ?_
          refine V_goto (pc := 49) (tgt := 54) dX12_post_49 (by decide) ?_
          refine V_iret hX dX12_post_54 rfl ?_
          exact ⟨congrArg vi (by unfold cPost; (repeat (first | rw [if_pos (by omega)] | rw [if_neg (by omega)])); try omega), rfl⟩
      · refine V_aloadn (pc := 29) dX12_post_29 rfl ?_
        refine V_getr (pc := 30) dX12_post_30 fX12_40 zk_256 zr_256_13 ?_
        refine V_iloadn (pc := 33) dX12_post_33 rfl ?_
        refine V_iald (pc := 34) dX12_post_34 zk_270 (by omega) (by omega) (by decide) ?_
        refine V_goto (pc := 35) (tgt := 54) dX12_post_35 (by decide) ?_
        refine V_iret hX dX12_post_54 rfl ?_
        exact ⟨congrArg vi (by unfold cPost; (repeat (first | rw [if_pos (by omega)] | rw [if_neg (by omega)])); try omega), rfl⟩
    · refine V_aloadn (pc := 15) dX12_post_15 rfl ?_
      refine V_getr (pc := 16) dX12_post_16 fX12_28 zk_256 zr_256_9 ?_
      refine V_iloadn (pc := 19) dX12_post_19 rfl ?_
      refine V_iald (pc := 20) dX12_post_20 zk_266 (by omega) (by omega) (by decide) ?_
      refine V_goto (pc := 21) (tgt := 54) dX12_post_21 (by decide) ?_
      refine V_iret hX dX12_post_54 rfl ?_
      exact ⟨congrArg vi (by unfold cPost; (repeat (first | rw [if_pos (by omega)] | rw [if_neg (by omega)])); try omega), rfl⟩
  · refine V_ldc (pc := 8) (n := -1000000001) dX12_post_8 nX12_246 (by decide) ?_
    refine V_iret hX dX12_post_10 rfl ?_
    exact ⟨congrArg vi (by unfold cPost; (repeat (first | rw [if_pos (by omega)] | rw [if_neg (by omega)])); try omega), rfl⟩

set_option maxRecDepth 20000 in
theorem r_miles {μ : Mem} (hG : GI μ) {a b : Int} (ha : inR a) (hb : inR b) : SP mX12_miles [vr 256, vi a, vi b] μ (fun w m => w = vi (cMiles μ a b) ∧ m = μ) := by
  refine SP_intro (ls := [vr 256, vi a, vi b]) (by decide +kernel) rfl rfl (Nat.le_of_ble_eq_true rfl) rfl (fun X hX => ?_)
  obtain ⟨hL, hO, hV, hR⟩ := id hG
  obtain ⟨hL0, hL1, hL2, hL3, hL4⟩ := id hL
  obtain ⟨⟨r0, r1, r2⟩, hR1, hR2, hR3, hR4, hR5, hR6⟩ := id hR
  refine V_aloadn (pc := 0) dX12_miles_0 rfl ?_
  refine V_iloadn (pc := 1) dX12_miles_1 rfl ?_
  refine V_iloadn (pc := 2) dX12_miles_2 rfl ?_
  refine V_cv2 (pc := 3) dX12_miles_3 kX12_247 zk_256 (by decide) (Nat.le_of_ble_eq_true rfl) (r_areTwo (by rw [r0]; exact hL0) (by omega) (by omega)) rfl ?_
  rw [bi_cg (show ((0 ≤ a ∧ a < μ 256 0) ∧ 0 ≤ b ∧ b < μ 256 0) ↔ ((0 ≤ a ∧ a < μ 32 0) ∧ 0 ≤ b ∧ b < μ 32 0) by rw [r0])]
  refine V_ifne_b (pc := 6) (tgt := 12) dX12_miles_6 (by decide) (fun h6 => ?_) (fun h6 => ?_)
  · have w := RM.arm hG (p := a) (t := b) (by omega) (by omega)
    have z := aT_0 hG (p := a) (t := b) (by omega) (by omega)
    refine V_aloadn (pc := 12) dX12_miles_12 rfl ?_
    refine V_iloadn (pc := 13) dX12_miles_13 rfl ?_
    refine V_iloadn (pc := 14) dX12_miles_14 rfl ?_
    refine V_cv2 (pc := 15) dX12_miles_15 kX12_263 zk_256 (by decide) (Nat.le_of_ble_eq_true rfl) (r_isTold hG (by omega) (by omega)) rfl ?_
    refine V_ifeq_b (pc := 18) (tgt := 35) dX12_miles_18 (by decide) (fun h18 => ?_) (fun h18 => ?_)
    · refine V_iconst (pc := 35) dX12_miles_35 ?_
      refine V_iret hX dX12_miles_36 rfl ?_
      exact ⟨congrArg vi (by unfold cMiles mT; (repeat (first | rw [if_pos (by omega)] | rw [if_neg (by omega)])); try (exact w.2.2.2.2 (by omega))), rfl⟩
    · refine V_aloadn (pc := 21) dX12_miles_21 rfl ?_
      refine V_getr (pc := 22) dX12_miles_22 fX12_46 zk_256 zr_256_15 ?_
      refine V_bipush (pc := 25) dX12_miles_25 (by decide +kernel) ?_
      refine V_iloadn (pc := 27) dX12_miles_27 rfl ?_
      refine V_imul (pc := 28) dX12_miles_28 ?_
      refine V_iloadn (pc := 29) dX12_miles_29 rfl ?_
      refine V_iadd (pc := 30) dX12_miles_30 ?_
      refine V_iald (pc := 31) dX12_miles_31 zk_272 (by omega) (by omega) (by decide) ?_
      refine V_goto (pc := 32) (tgt := 36) dX12_miles_32 (by decide) ?_
      refine V_iret hX dX12_miles_36 rfl ?_
      exact ⟨congrArg vi (by unfold cMiles mT; (repeat (first | rw [if_pos (by omega)] | rw [if_neg (by omega)])); try (exact w.2.2.2.2 (by omega))), rfl⟩
  · refine V_ldc (pc := 9) (n := -1000000001) dX12_miles_9 nX12_246 (by decide) ?_
    refine V_iret hX dX12_miles_11 rfl ?_
    exact ⟨congrArg vi (by unfold cMiles mT; (repeat (first | rw [if_pos (by omega)] | rw [if_neg (by omega)])); try (exact w.2.2.2.2 (by omega))), rfl⟩

set_option maxRecDepth 20000 in
theorem r_arm {μ : Mem} (hG : GI μ) {p i u : Int} (hp : inR p) (hi : inR i) (hu : inR u) : SP mX12_arm [vr 256, vi p, vi i, vi u] μ (fun w m => w = vi (cArm μ p i u) ∧ m = μ) := by
  refine SP_intro (ls := [vr 256, vi p, vi i, vi u]) (by decide +kernel) rfl rfl (Nat.le_of_ble_eq_true rfl) rfl (fun X hX => ?_)
  obtain ⟨hL, hO, hV, hR⟩ := id hG
  obtain ⟨hL0, hL1, hL2, hL3, hL4⟩ := id hL
  obtain ⟨⟨r0, r1, r2⟩, hR1, hR2, hR3, hR4, hR5, hR6⟩ := id hR
  have s := hL3 p.toNat
  have o3 := hO.1 p.toNat
  refine V_aloadn (pc := 0) dX12_arm_0 rfl ?_
  refine V_iloadn (pc := 1) dX12_arm_1 rfl ?_
  refine V_cv1 (pc := 2) dX12_arm_2 kX12_125 zk_256 (by decide) (Nat.le_of_ble_eq_true rfl) (r_isPlace (by rw [r0]; exact hL0) (by omega)) rfl ?_
  rw [bi_cg (show (0 ≤ p ∧ p < μ 256 0) ↔ (0 ≤ p ∧ p < μ 32 0) by rw [r0])]
  refine V_ifne_b (pc := 5) (tgt := 11) dX12_arm_5 (by decide) (fun h5 => ?_) (fun h5 => ?_)
  · have d := RM.sd hG (p := p) (by omega)
    refine V_iloadn (pc := 11) dX12_arm_11 rfl ?_
    refine V_i2l (pc := 12) dX12_arm_12 (by omega) ?_
    refine V_lconst0 (pc := 13) dX12_arm_13 ?_
    refine V_aloadn (pc := 14) dX12_arm_14 rfl ?_
    refine V_getr (pc := 15) dX12_arm_15 fX12_28 zk_256 zr_256_9 ?_
    refine V_iloadn (pc := 18) dX12_arm_18 rfl ?_
    refine V_iald (pc := 19) dX12_arm_19 zk_266 (by omega) (by omega) (by decide) ?_
    rw [d.1]
    refine V_iconst (pc := 20) dX12_arm_20 ?_
    refine V_isub (pc := 21) dX12_arm_21 ?_
    refine V_i2l (pc := 22) dX12_arm_22 (by omega) ?_
    refine V_cs3 (pc := 23) dX12_arm_23 kX12_121 (by decide) (Nat.le_of_ble_eq_true rfl) (r_in (by omega) (by omega) (by omega)) rfl ?_
    refine V_ifeq_b (pc := 26) (tgt := 41) dX12_arm_26 (by decide) (fun h26 => ?_) (fun h26 => ?_)
    · refine V_ldc (pc := 41) (n := -1000000002) dX12_arm_41 nX12_131 (by decide) ?_
      refine V_iret hX dX12_arm_43 rfl ?_
      exact ⟨congrArg vi (by unfold cArm; (repeat (first | rw [if_pos (by omega)] | rw [if_neg (by omega)])); first | done | rw [d.2.2.2.2.1] | rw [eS]), rfl⟩
    · refine V_iloadn (pc := 29) dX12_arm_29 rfl ?_
      refine V_i2l (pc := 30) dX12_arm_30 (by omega) ?_
      refine V_lconst0 (pc := 31) dX12_arm_31 ?_
      refine V_ldc2 (pc := 32) (n := 2) dX12_arm_32 nX12_251 (by decide) ?_
      refine V_cs3 (pc := 35) dX12_arm_35 kX12_121 (by decide) (Nat.le_of_ble_eq_true rfl) (r_in (by omega) (by omega) (by omega)) rfl ?_
      refine V_ifne_b (pc := 38) (tgt := 44) dX12_arm_38 (by decide) (fun h38 => ?_) (fun h38 => ?_)
      · have eS : sA μ p i 0 = i := by unfold sA; rw [if_pos (by omega), d.2.2.2.1, Int.add_zero]; exact Int.emod_eq_of_lt (by omega) (by omega)
        refine V_iloadn (pc := 44) dX12_arm_44 rfl ?_
        refine V_if_ne (pc := 45) (tgt := 57) dX12_arm_45 (by decide) (by omega) (fun h45 => ?_) (fun h45 => ?_)
        · refine V_iloadn (pc := 57) dX12_arm_57 rfl ?_
          refine V_iconst (pc := 58) dX12_arm_58 ?_
          refine V_icmp_ne (pc := 59) (tgt := 77) dX12_arm_59 (by decide) (by omega) (by decide) (fun h59 => ?_) (fun h59 => ?_)
          · refine V_aloadn (pc := 77) dX12_arm_77 rfl ?_
            refine V_iloadn (pc := 78) dX12_arm_78 rfl ?_
            refine V_iloadn (pc := 79) dX12_arm_79 rfl ?_
            refine V_iconst (pc := 80) dX12_arm_80 ?_
            refine V_cv3 (pc := 81) dX12_arm_81 kX12_256 zk_256 (by decide) (Nat.le_of_ble_eq_true rfl) (r_stands hG (by omega) (by omega) (by omega)) rfl ?_
            refine V_iret hX dX12_arm_84 rfl ?_
            exact ⟨congrArg vi (by unfold cArm; (repeat (first | rw [if_pos (by omega)] | rw [if_neg (by omega)])); first | done | rw [d.2.2.2.2.1] | rw [eS]), rfl⟩
          · refine V_aloadn (pc := 62) dX12_arm_62 rfl ?_
            refine V_iloadn (pc := 63) dX12_arm_63 rfl ?_
            refine V_iloadn (pc := 64) dX12_arm_64 rfl ?_
            refine V_aloadn (pc := 65) dX12_arm_65 rfl ?_
            refine V_getr (pc := 66) dX12_arm_66 fX12_40 zk_256 zr_256_13 ?_
            refine V_iloadn (pc := 69) dX12_arm_69 rfl ?_
            refine V_iald (pc := 70) dX12_arm_70 zk_270 (by omega) (by omega) (by decide) ?_
            rw [d.2.1]
            refine V_cv3 (pc := 71) dX12_arm_71 kX12_256 zk_256 (by decide) (Nat.le_of_ble_eq_true rfl) (r_stands hG (by omega) (by omega) (by omega)) rfl ?_
            refine V_goto (pc := 74) (tgt := 84) dX12_arm_74 (by decide) ?_
            refine V_iret hX dX12_arm_84 rfl ?_
            exact ⟨congrArg vi (by unfold cArm; (repeat (first | rw [if_pos (by omega)] | rw [if_neg (by omega)])); first | done | rw [d.2.2.2.2.1] | rw [eS]), rfl⟩
        · refine V_aloadn (pc := 48) dX12_arm_48 rfl ?_
          refine V_iloadn (pc := 49) dX12_arm_49 rfl ?_
          refine V_iloadn (pc := 50) dX12_arm_50 rfl ?_
          refine V_cv2 (pc := 51) dX12_arm_51 kX12_253 zk_256 (by decide) (Nat.le_of_ble_eq_true rfl) (r_toldBy hG (by omega) hi) rfl ?_
          refine V_goto (pc := 54) (tgt := 84) dX12_arm_54 (by decide) ?_
          refine V_iret hX dX12_arm_84 rfl ?_
          exact ⟨congrArg vi (by unfold cArm; (repeat (first | rw [if_pos (by omega)] | rw [if_neg (by omega)])); first | done | rw [d.2.2.2.2.1] | rw [eS]), rfl⟩
      · refine V_ldc (pc := 41) (n := -1000000002) dX12_arm_41 nX12_131 (by decide) ?_
        refine V_iret hX dX12_arm_43 rfl ?_
        exact ⟨congrArg vi (by unfold cArm; (repeat (first | rw [if_pos (by omega)] | rw [if_neg (by omega)])); first | done | rw [d.2.2.2.2.1] | rw [eS]), rfl⟩
  · refine V_ldc (pc := 8) (n := -1000000001) dX12_arm_8 nX12_246 (by decide) ?_
    refine V_iret hX dX12_arm_10 rfl ?_
    exact ⟨congrArg vi (by unfold cArm; (repeat (first | rw [if_pos (by omega)] | rw [if_neg (by omega)])); first | done | rw [d.2.2.2.2.1] | rw [eS]), rfl⟩

set_option maxRecDepth 20000 in
theorem r_walk {μ : Mem} (hG : GI μ) (hln : ∀ r, 0 ≤ gLn μ 32 r ∧ gLn μ 32 r ≤ 99) (hne : ∀ a t r, (0 ≤ a ∧ a < μ 32 0) → (0 ≤ t ∧ t < μ 32 0) → inR r → ¬ (wkF μ a t r).1 = 0) {a t u : Int} (ha : inR a) (ht : inR t) (hu : inR u) : SP mX12_walk [vr 256, vi a, vi t, vi u] μ (fun w m => w = vi (cWalk μ a t u) ∧ MWf μ m) := by
  refine SP_intro (ls := [vr 256, vi a, vi t, vi u]) (by decide +kernel) rfl rfl (Nat.le_of_ble_eq_true rfl) rfl (fun X hX => ?_)
  obtain ⟨hL, hO, hV, hR⟩ := id hG
  obtain ⟨hL0, hL1, hL2, hL3, hL4⟩ := id hL
  obtain ⟨⟨r0, r1, r2⟩, hR1, hR2, hR3, hR4, hR5, hR6⟩ := id hR
  refine V_aloadn (pc := 0) dX12_walk_0 rfl ?_
  refine V_iloadn (pc := 1) dX12_walk_1 rfl ?_
  refine V_iloadn (pc := 2) dX12_walk_2 rfl ?_
  refine V_cv2 (pc := 3) dX12_walk_3 kX12_247 zk_256 (by decide) (Nat.le_of_ble_eq_true rfl) (r_areTwo (by rw [r0]; exact hL0) (by omega) (by omega)) rfl ?_
  rw [bi_cg (show ((0 ≤ a ∧ a < μ 256 0) ∧ 0 ≤ t ∧ t < μ 256 0) ↔ ((0 ≤ a ∧ a < μ 32 0) ∧ 0 ≤ t ∧ t < μ 32 0) by rw [r0])]
  refine V_ifne_b (pc := 6) (tgt := 12) dX12_walk_6 (by decide) (fun h6 => ?_) (fun h6 => ?_)
  · refine V_aloadn (pc := 12) dX12_walk_12 rfl ?_
    refine V_iloadn (pc := 13) dX12_walk_13 rfl ?_
    refine V_iloadn (pc := 14) dX12_walk_14 rfl ?_
    refine V_iconst (pc := 15) dX12_walk_15 ?_
    refine V_cq3 (pc := 16) dX12_walk_16 kX12_286 zk_256 (by decide) (Nat.le_of_ble_eq_true rfl) (r_walkNow hG (by omega) (by omega) (by decide) (hne _ _ _ (by omega) (by omega) (by decide))) ?_
    intro w m hm
    obtain ⟨rfl, hm⟩ := hm
    have rr := wkF_rg μ hln a t 0
    show V X _ _ _ _ m
    refine V_iloadn (pc := 19) dX12_walk_19 rfl ?_
    refine V_if_ne (pc := 20) (tgt := 30) dX12_walk_20 (by decide) (by omega) (fun h20 => ?_) (fun h20 => ?_)
    · refine V_iloadn (pc := 30) dX12_walk_30 rfl ?_
      refine V_iconst (pc := 31) dX12_walk_31 ?_
      refine V_icmp_ne (pc := 32) (tgt := 42) dX12_walk_32 (by decide) (by omega) (by decide) (fun h32 => ?_) (fun h32 => ?_)
      · refine V_iloadn (pc := 42) dX12_walk_42 rfl ?_
        refine V_iconst (pc := 43) dX12_walk_43 ?_
        refine V_icmp_ne (pc := 44) (tgt := 54) dX12_walk_44 (by decide) (by omega) (by decide) (fun h44 => ?_) (fun h44 => ?_)
        · refine V_ldc (pc := 54) (n := -1000000002) dX12_walk_54 nX12_131 (by decide) ?_
          refine V_iret hX dX12_walk_56 rfl ?_
          exact ⟨congrArg vi (by unfold cWalk; repeat (first | rw [if_pos (by omega)] | rw [if_neg (by omega)])), hm.1⟩
        · refine V_aloadn (pc := 47) dX12_walk_47 rfl ?_
          refine V_geti (r := 0) (pc := 48) dX12_walk_48 fX12_274 zk_256 ?_
          rw [hm.2.2.2.1]
          refine V_goto (pc := 51) (tgt := 56) dX12_walk_51 (by decide) ?_
          refine V_iret hX dX12_walk_56 rfl ?_
          exact ⟨congrArg vi (by unfold cWalk; repeat (first | rw [if_pos (by omega)] | rw [if_neg (by omega)])), hm.1⟩
      · refine V_aloadn (pc := 35) dX12_walk_35 rfl ?_
        refine V_geti (r := 0) (pc := 36) dX12_walk_36 fX12_277 zk_256 ?_
        rw [hm.2.2.1]
        refine V_goto (pc := 39) (tgt := 56) dX12_walk_39 (by decide) ?_
        refine V_iret hX dX12_walk_56 rfl ?_
        exact ⟨congrArg vi (by unfold cWalk; repeat (first | rw [if_pos (by omega)] | rw [if_neg (by omega)])), hm.1⟩
    · refine V_aloadn (pc := 23) dX12_walk_23 rfl ?_
      refine V_geti (r := 0) (pc := 24) dX12_walk_24 fX12_283 zk_256 ?_
      rw [hm.2.1]
      refine V_goto (pc := 27) (tgt := 56) dX12_walk_27 (by decide) ?_
      refine V_iret hX dX12_walk_56 rfl ?_
      exact ⟨congrArg vi (by unfold cWalk; repeat (first | rw [if_pos (by omega)] | rw [if_neg (by omega)])), hm.1⟩
  · refine V_ldc (pc := 9) (n := -1000000001) dX12_walk_9 nX12_246 (by decide) ?_
    refine V_iret hX dX12_walk_11 rfl ?_
    exact ⟨congrArg vi (by unfold cWalk; repeat (first | rw [if_pos (by omega)] | rw [if_neg (by omega)])), MWf.rf μ⟩

set_option maxRecDepth 20000 in
theorem r_way {μ : Mem} (hG : GI μ) (hln : ∀ r, 0 ≤ gLn μ 32 r ∧ gLn μ 32 r ≤ 99) (hne : ∀ a t r, (0 ≤ a ∧ a < μ 32 0) → (0 ≤ t ∧ t < μ 32 0) → inR r → ¬ (wkF μ a t r).1 = 0) {a t i : Int} (ha : inR a) (ht : inR t) (hi : inR i) : SP mX12_way [vr 256, vi a, vi t, vi i] μ (fun w m => w = vi (cWay μ a t i) ∧ MWf μ m) := by
  refine SP_intro (ls := [vr 256, vi a, vi t, vi i]) (by decide +kernel) rfl rfl (Nat.le_of_ble_eq_true rfl) rfl (fun X hX => ?_)
  obtain ⟨hL, hO, hV, hR⟩ := id hG
  obtain ⟨hL0, hL1, hL2, hL3, hL4⟩ := id hL
  obtain ⟨⟨r0, r1, r2⟩, hR1, hR2, hR3, hR4, hR5, hR6⟩ := id hR
  refine V_aloadn (pc := 0) dX12_way_0 rfl ?_
  refine V_iloadn (pc := 1) dX12_way_1 rfl ?_
  refine V_iloadn (pc := 2) dX12_way_2 rfl ?_
  refine V_cv2 (pc := 3) dX12_way_3 kX12_247 zk_256 (by decide) (Nat.le_of_ble_eq_true rfl) (r_areTwo (by rw [r0]; exact hL0) (by omega) (by omega)) rfl ?_
  rw [bi_cg (show ((0 ≤ a ∧ a < μ 256 0) ∧ 0 ≤ t ∧ t < μ 256 0) ↔ ((0 ≤ a ∧ a < μ 32 0) ∧ 0 ≤ t ∧ t < μ 32 0) by rw [r0])]
  refine V_ifne_b (pc := 6) (tgt := 12) dX12_way_6 (by decide) (fun h6 => ?_) (fun h6 => ?_)
  · refine V_aloadn (pc := 12) dX12_way_12 rfl ?_
    refine V_iloadn (pc := 13) dX12_way_13 rfl ?_
    refine V_iloadn (pc := 14) dX12_way_14 rfl ?_
    refine V_iconst (pc := 15) dX12_way_15 ?_
    refine V_cq3 (pc := 16) dX12_way_16 kX12_286 zk_256 (by decide) (Nat.le_of_ble_eq_true rfl) (r_walkNow hG (by omega) (by omega) (by decide) (hne _ _ _ (by omega) (by omega) (by decide))) ?_
    intro w m hm
    obtain ⟨rfl, hm⟩ := hm
    have rr := wkF_rg μ hln a t 0
    show V X _ _ _ _ m
    refine V_iloadn (pc := 19) dX12_way_19 rfl ?_
    refine V_i2l (pc := 20) dX12_way_20 (by omega) ?_
    refine V_lconst0 (pc := 21) dX12_way_21 ?_
    refine V_aloadn (pc := 22) dX12_way_22 rfl ?_
    refine V_geti (r := 0) (pc := 23) dX12_way_23 fX12_280 zk_256 ?_
    rw [hm.2.2.2.2.1]
    refine V_i2l (pc := 26) dX12_way_26 (by omega) ?_
    refine V_cs3 (pc := 27) dX12_way_27 kX12_121 (by decide) (Nat.le_of_ble_eq_true rfl) (r_in (by omega) (by omega) (by omega)) rfl ?_
    refine V_ifeq_b (pc := 30) (tgt := 42) dX12_way_30 (by decide) (fun h30 => ?_) (fun h30 => ?_)
    · refine V_iconst (pc := 42) dX12_way_42 ?_
      refine V_iret hX dX12_way_43 rfl ?_
      exact ⟨congrArg vi (by unfold cWay; (repeat (first | rw [if_pos (by omega)] | rw [if_neg (by omega)])); first | done | exact hm.2.2.2.2.2.1 i.toNat (by omega)), hm.1⟩
    · refine V_aloadn (pc := 33) dX12_way_33 rfl ?_
      refine V_getr (pc := 34) dX12_way_34 fX12_74 zk_256 zr_256_39 ?_
      refine V_iloadn (pc := 37) dX12_way_37 rfl ?_
      refine V_iald (pc := 38) dX12_way_38 zk_296 (by omega) (by omega) (by decide) ?_
      refine V_goto (pc := 39) (tgt := 43) dX12_way_39 (by decide) ?_
      refine V_iret hX dX12_way_43 rfl ?_
      exact ⟨congrArg vi (by unfold cWay; (repeat (first | rw [if_pos (by omega)] | rw [if_neg (by omega)])); first | done | exact hm.2.2.2.2.2.1 i.toNat (by omega)), hm.1⟩
  · refine V_ldc (pc := 9) (n := -1000000001) dX12_way_9 nX12_246 (by decide) ?_
    refine V_iret hX dX12_way_11 rfl ?_
    exact ⟨congrArg vi (by unfold cWay; repeat (first | rw [if_pos (by omega)] | rw [if_neg (by omega)])), MWf.rf μ⟩

theorem RM.trav {μ : Mem} (hG : GI μ) {g : Int} (hg : 0 ≤ g ∧ g < μ 32 2) : μ 263 g.toNat = gFr μ 32 g ∧ μ 264 g.toNat = gTo μ 32 g ∧ μ 265 g.toNat = gHd μ 32 g ∧ (0 ≤ gFr μ 32 g ∧ gFr μ 32 g < μ 32 0) ∧ (0 ≤ gTo μ 32 g ∧ gTo μ 32 g < μ 32 0) ∧ (1 ≤ gHd μ 32 g ∧ gHd μ 32 g ≤ 99) := by
  obtain ⟨hL, hO, hV, hR⟩ := id hG
  have h1 := hR.2.2.1 g.toNat (by omega)
  have h2 := hV.2.2.2 g.toNat (by omega)
  have e1 : gFr μ 32 g = μ (32 + 7) g.toNat := by unfold gFr; rw [if_pos hg]
  have e2 : gTo μ 32 g = μ (32 + 8) g.toNat := by unfold gTo; rw [if_pos hg]
  have e3 : gHd μ 32 g = μ (32 + 9) g.toNat := by unfold gHd; rw [if_pos hg]
  rw [e1, e2, e3]
  exact ⟨h1.1, h1.2.1, h1.2.2, h2⟩

set_option maxRecDepth 20000 in
theorem l_costBy {μ : Mem} (hG : GI μ) (hln : ∀ r, 0 ≤ gLn μ 32 r ∧ gLn μ 32 r ≤ 99) (hne : ∀ a t r, (0 ≤ a ∧ a < μ 32 0) → (0 ≤ t ∧ t < μ 32 0) → inR r → ¬ (wkF μ a t r).1 = 0) (hcf : ∀ g s, (0 ≤ g ∧ g < μ 32 2) → inR s → (wkF μ (gFr μ 32 g) (gTo μ 32 g) s).1 = 1 → ¬ gFar μ 32 (gFr μ 32 g) (gTo μ 32 g) = -1) {s : Int} (hs : inR s) {R : Int} {X : ZX} (hX : isM X (fun w m => w = vi R ∧ MWf μ m)) : ∀ (n : Nat) (acc g : Int) (ν : Mem), (g + n = μ 32 2) → (0 ≤ g) → (MWf μ ν) → (cst μ s n g acc = R) → V X mX12_costBy 4 [vr 256, vi s, vi acc, vi g] [] ν := by
  intro n
  induction n with
  | zero =>
    intro acc g ν h1 h2 hw hR0
    obtain ⟨hL, hO, hV, hR⟩ := id hG
    obtain ⟨hL0, hL1, hL2, hL3, hL4⟩ := id hL
    obtain ⟨⟨r0, r1, r2⟩, hR1, hR2, hR3, hR4, hR5, hR6⟩ := id hR
    have hmc := hw.mc
    have hGn := GI_mc hmc hG
    have hag := hmc.ag
    have rt : ν 256 5 = μ 32 2 := by rw [hmc.2.2 5 (by decide), r2]
    refine V_iloadn (pc := 4) dX12_costBy_4 rfl ?_
    refine V_aloadn (pc := 5) dX12_costBy_5 rfl ?_
    refine V_geti (r := 0) (pc := 6) dX12_costBy_6 fX12_221 zk_256 ?_
    rw [rt]
    refine V_icmp_ge (pc := 9) (tgt := 85) dX12_costBy_9 (by decide) (by omega) (by omega) (fun h9 => ?_) (fun h9 => ?_)
    · refine V_iloadn (pc := 85) dX12_costBy_85 rfl ?_
      refine V_iret hX dX12_costBy_86 rfl ?_
      exact ⟨congrArg vi hR0, hw⟩
    · exfalso; omega
  | succ n ih =>
    intro acc g ν h1 h2 hw hR0
    obtain ⟨hL, hO, hV, hR⟩ := id hG
    obtain ⟨hL0, hL1, hL2, hL3, hL4⟩ := id hL
    obtain ⟨⟨r0, r1, r2⟩, hR1, hR2, hR3, hR4, hR5, hR6⟩ := id hR
    have hmc := hw.mc
    have hGn := GI_mc hmc hG
    have hag := hmc.ag
    have rt : ν 256 5 = μ 32 2 := by rw [hmc.2.2 5 (by decide), r2]
    have tv := RM.trav hG (g := g) (by omega)
    have e263 : ν 263 g.toNat = gFr μ 32 g := by rw [hmc.2.1 263 (by decide) (by decide)]; exact tv.1
    have e264 : ν 264 g.toNat = gTo μ 32 g := by rw [hmc.2.1 264 (by decide) (by decide)]; exact tv.2.1
    have e32 : ν 32 0 = μ 32 0 := by rw [hag 32 (by decide)]
    have fa := RM.arm hG (p := gFr μ 32 g) (t := gTo μ 32 g) tv.2.2.2.1 tv.2.2.2.2.1
    have rr := wkF_rg μ hln (gFr μ 32 g) (gTo μ 32 g) s
    have nz := hne (gFr μ 32 g) (gTo μ 32 g) s tv.2.2.2.1 tv.2.2.2.2.1 hs
    refine V_iloadn (pc := 4) dX12_costBy_4 rfl ?_
    refine V_aloadn (pc := 5) dX12_costBy_5 rfl ?_
    refine V_geti (r := 0) (pc := 6) dX12_costBy_6 fX12_221 zk_256 ?_
    rw [rt]
    refine V_icmp_ge (pc := 9) (tgt := 85) dX12_costBy_9 (by decide) (by omega) (by omega) (fun h9 => ?_) (fun h9 => ?_)
    · exfalso; omega
    · refine V_aloadn (pc := 12) dX12_costBy_12 rfl ?_
      refine V_aloadn (pc := 13) dX12_costBy_13 rfl ?_
      refine V_getr (pc := 14) dX12_costBy_14 fX12_19 zk_256 zr_256_6 ?_
      refine V_iloadn (pc := 17) dX12_costBy_17 rfl ?_
      refine V_iald (pc := 18) dX12_costBy_18 zk_263 (by omega) (by omega) (by decide) ?_
      rw [e263]
      refine V_aloadn (pc := 19) dX12_costBy_19 rfl ?_
      refine V_getr (pc := 20) dX12_costBy_20 fX12_22 zk_256 zr_256_7 ?_
      refine V_iloadn (pc := 23) dX12_costBy_23 rfl ?_
      refine V_iald (pc := 24) dX12_costBy_24 zk_264 (by omega) (by omega) (by decide) ?_
      rw [e264]
      refine V_iloadn (pc := 25) dX12_costBy_25 rfl ?_
      refine V_cq3 (pc := 26) dX12_costBy_26 kX12_286 zk_256 (by decide) (Nat.le_of_ble_eq_true rfl) (r_walkNow hGn (by rw [e32]; exact tv.2.2.2.1) (by rw [e32]; exact tv.2.2.2.2.1) hs (by rw [wkF_ag hag]; exact nz)) ?_
      intro w m hm
      obtain ⟨rfl, hm⟩ := hm
      rw [wkF_ag hag] at hm
      have hw2 := MWf.tr hw hm.1
      have hmc2 := hw2.mc
      have e263' : m 263 g.toNat = gFr μ 32 g := by rw [hmc2.2.1 263 (by decide) (by decide)]; exact tv.1
      have e264' : m 264 g.toNat = gTo μ 32 g := by rw [hmc2.2.1 264 (by decide) (by decide)]; exact tv.2.1
      have e265' : m 265 g.toNat = gHd μ 32 g := by rw [hmc2.2.1 265 (by decide) (by decide)]; exact tv.2.2.1
      have e268' : m 268 (9 * gFr μ 32 g + gTo μ 32 g).toNat = (if gFar μ 32 (gFr μ 32 g) (gTo μ 32 g) = -1 then 1000000 else gFar μ 32 (gFr μ 32 g) (gTo μ 32 g)) := by rw [hmc2.2.1 268 (by decide) (by decide)]; exact fa.2.1
      show V X _ _ _ _ m
      refine V_iloadn (pc := 29) dX12_costBy_29 rfl ?_
      refine V_aloadn (pc := 30) dX12_costBy_30 rfl ?_
      refine V_getr (pc := 31) dX12_costBy_31 fX12_25 zk_256 zr_256_8 ?_
      refine V_iloadn (pc := 34) dX12_costBy_34 rfl ?_
      refine V_iald (pc := 35) dX12_costBy_35 zk_265 (by omega) (by omega) (by decide) ?_
      rw [e265']
      refine V_aloadn (pc := 36) dX12_costBy_36 rfl ?_
      refine V_geti (r := 0) (pc := 37) dX12_costBy_37 fX12_283 zk_256 ?_
      rw [hm.2.1]
      refine V_iconst (pc := 40) dX12_costBy_40 ?_
      refine V_icmp_ne (pc := 41) (tgt := 73) dX12_costBy_41 (by decide) (by omega) (by decide) (fun h41 => ?_) (fun h41 => ?_)
      · refine V_sipush (pc := 73) dX12_costBy_73 (by decide +kernel) ?_
        refine V_imul (pc := 76) dX12_costBy_76 ?_
        refine V_iadd (pc := 77) dX12_costBy_77 ?_
        refine V_istore_2 (pc := 78) dX12_costBy_78 (by decide) rfl ?_
        refine V_iinc_3 (pc := 79) dX12_costBy_79 (by decide) rfl ?_
        refine V_goto (pc := 82) (tgt := 4) dX12_costBy_82 (by decide) ?_
        exact ih _ _ _ (by omega) (by omega) hw2 (by rw [← hR0, cst_s]; unfold ech; first | (exfalso; omega) | (rw [if_pos (show (wkF μ (gFr μ 32 g) (gTo μ 32 g) s).1 = 1 by omega), if_neg (hcf g s (by omega) hs (by omega))]; done) | rw [if_neg (by omega)])
      · refine V_aloadn (pc := 44) dX12_costBy_44 rfl ?_
        refine V_geti (r := 0) (pc := 45) dX12_costBy_45 fX12_277 zk_256 ?_
        rw [hm.2.2.1]
        refine V_aloadn (pc := 48) dX12_costBy_48 rfl ?_
        refine V_getr (pc := 49) dX12_costBy_49 fX12_34 zk_256 zr_256_11 ?_
        refine V_bipush (pc := 52) dX12_costBy_52 (by decide +kernel) ?_
        refine V_aloadn (pc := 54) dX12_costBy_54 rfl ?_
        refine V_getr (pc := 55) dX12_costBy_55 fX12_19 zk_256 zr_256_6 ?_
        refine V_iloadn (pc := 58) dX12_costBy_58 rfl ?_
        refine V_iald (pc := 59) dX12_costBy_59 zk_263 (by omega) (by omega) (by decide) ?_
        rw [e263']
        refine V_imul (pc := 60) dX12_costBy_60 ?_
        refine V_aloadn (pc := 61) dX12_costBy_61 rfl ?_
        refine V_getr (pc := 62) dX12_costBy_62 fX12_22 zk_256 zr_256_7 ?_
        refine V_iloadn (pc := 65) dX12_costBy_65 rfl ?_
        refine V_iald (pc := 66) dX12_costBy_66 zk_264 (by omega) (by omega) (by decide) ?_
        rw [e264']
        refine V_iadd (pc := 67) dX12_costBy_67 ?_
        refine V_iald (pc := 68) dX12_costBy_68 zk_268 (by omega) (by omega) (by decide) ?_
        rw [e268']
        refine V_isub (pc := 69) dX12_costBy_69 ?_
        refine V_goto (pc := 70) (tgt := 76) dX12_costBy_70 (by decide) ?_
        refine V_imul (pc := 76) dX12_costBy_76 ?_
        refine V_iadd (pc := 77) dX12_costBy_77 ?_
        refine V_istore_2 (pc := 78) dX12_costBy_78 (by decide) rfl ?_
        refine V_iinc_3 (pc := 79) dX12_costBy_79 (by decide) rfl ?_
        refine V_goto (pc := 82) (tgt := 4) dX12_costBy_82 (by decide) ?_
        exact ih _ _ _ (by omega) (by omega) hw2 (by rw [← hR0, cst_s]; unfold ech; first | (exfalso; omega) | (rw [if_pos (show (wkF μ (gFr μ 32 g) (gTo μ 32 g) s).1 = 1 by omega), if_neg (hcf g s (by omega) hs (by omega))]; done) | rw [if_neg (by omega)])

set_option maxRecDepth 20000 in
theorem r_costBy {μ : Mem} (hG : GI μ) (hln : ∀ r, 0 ≤ gLn μ 32 r ∧ gLn μ 32 r ≤ 99) (hne : ∀ a t r, (0 ≤ a ∧ a < μ 32 0) → (0 ≤ t ∧ t < μ 32 0) → inR r → ¬ (wkF μ a t r).1 = 0) (hcf : ∀ g s, (0 ≤ g ∧ g < μ 32 2) → inR s → (wkF μ (gFr μ 32 g) (gTo μ 32 g) s).1 = 1 → ¬ gFar μ 32 (gFr μ 32 g) (gTo μ 32 g) = -1) {s : Int} (hs : inR s) : SP mX12_costBy [vr 256, vi s] μ (fun w m => w = vi (cost μ s) ∧ MWf μ m) := by
  refine SP_intro (ls := [vr 256, vi s, un, un]) (by decide +kernel) rfl rfl (Nat.le_of_ble_eq_true rfl) rfl (fun X hX => ?_)
  obtain ⟨hL, hO, hV, hR⟩ := id hG
  obtain ⟨hL0, hL1, hL2, hL3, hL4⟩ := id hL
  obtain ⟨⟨r0, r1, r2⟩, hR1, hR2, hR3, hR4, hR5, hR6⟩ := id hR
  refine V_iconst (pc := 0) dX12_costBy_0 ?_
  refine V_istore_2 (pc := 1) dX12_costBy_1 (by decide) rfl ?_
  refine V_iconst (pc := 2) dX12_costBy_2 ?_
  refine V_istore_3 (pc := 3) dX12_costBy_3 (by decide) rfl ?_
  exact l_costBy hG hln hne hcf hs hX (μ 32 2).toNat 0 0 μ (by omega) (by omega) (MWf.rf μ) rfl

set_option maxRecDepth 20000 in
theorem r_costNow {μ : Mem} (hG : GI μ) (hln : ∀ r, 0 ≤ gLn μ 32 r ∧ gLn μ 32 r ≤ 99) (hne : ∀ a t r, (0 ≤ a ∧ a < μ 32 0) → (0 ≤ t ∧ t < μ 32 0) → inR r → ¬ (wkF μ a t r).1 = 0) (hcf : ∀ g s, (0 ≤ g ∧ g < μ 32 2) → inR s → (wkF μ (gFr μ 32 g) (gTo μ 32 g) s).1 = 1 → ¬ gFar μ 32 (gFr μ 32 g) (gTo μ 32 g) = -1) : SP mX12_costNow [vr 256] μ (fun w m => w = vi (cost μ 0) ∧ MWf μ m) := by
  refine SP_intro (ls := [vr 256]) (by decide +kernel) rfl rfl (Nat.le_of_ble_eq_true rfl) rfl (fun X hX => ?_)
  refine V_aloadn (pc := 0) dX12_costNow_0 rfl ?_
  refine V_iconst (pc := 1) dX12_costNow_1 ?_
  refine V_cq1 (pc := 2) dX12_costNow_2 kX12_290 zk_256 (by decide) (Nat.le_of_ble_eq_true rfl) (r_costBy hG hln hne hcf (by decide)) ?_
  intro w m hm
  obtain ⟨rfl, hm⟩ := hm
  show V X _ _ _ (vi (cost μ 0) :: _) m
  refine V_iret hX dX12_costNow_5 rfl ?_
  exact ⟨rfl, hm⟩


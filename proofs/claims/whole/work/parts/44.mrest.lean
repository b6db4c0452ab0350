set_option maxRecDepth 20000 in
theorem l_mquarrelT {μ : Mem} (hG : GI μ) (hmt : ∀ p t, (0 ≤ p ∧ p < μ 32 0) → (0 ≤ t ∧ t < μ 32 0) → ¬ aT μ 80 p t 0 = -1 → ¬ mT μ 80 p t = -1 ∧ mT μ 80 p t < 1000000 ∧ ¬ gFar μ 32 p t = -1) (hself : ∀ q t, q = t → aT μ 80 q t 0 = -1) {b p : Int} (hb : b = 0 ∨ b = 1) (hp : 0 ≤ p ∧ p < μ 32 0) {X : ZX} {R : Int} (hX : isM X (fun w m => w = vi R ∧ m = μ)) (hex : qT μ b p (μ 32 0).toNat 0 = -1 → ∀ t, V X mX12_quarrel 43 [vr 256, vi b, vi p, vi t] [] μ) (hrt : ¬ qT μ b p (μ 32 0).toNat 0 = -1 → qT μ b p (μ 32 0).toNat 0 = R) : ∀ (n : Nat) (t : Int), (t + n = μ 32 0) → (0 ≤ t) → (qT μ b p n t = qT μ b p (μ 32 0).toNat 0) → V X mX12_quarrel 12 [vr 256, vi b, vi p, vi t] [] μ := by
  intro n
  induction n with
  | zero =>
    intro t h1 h2 hR0
    obtain ⟨hL, hO, hV, hR⟩ := id hG
    obtain ⟨hL0, hL1, hL2, hL3, hL4⟩ := id hL
    obtain ⟨⟨r0, r1, r2⟩, hR1, hR2, hR3, hR4, hR5, hR6⟩ := id hR
    refine V_iloadn (pc := 12) dX12_quarrel_12 rfl ?_
    refine V_aloadn (pc := 13) dX12_quarrel_13 rfl ?_
    refine V_geti (r := 0) (pc := 14) dX12_quarrel_14 fX12_118 zk_256 ?_
    rw [r0]
    refine V_icmp_ge (pc := 17) (tgt := 43) dX12_quarrel_17 (by decide) (by omega) (by omega) (fun h17 => ?_) (fun h17 => ?_)
    · exact hex (by rw [← hR0]; rfl) _
    · exfalso; omega
  | succ n ih =>
    intro t h1 h2 hR0
    obtain ⟨hL, hO, hV, hR⟩ := id hG
    obtain ⟨hL0, hL1, hL2, hL3, hL4⟩ := id hL
    obtain ⟨⟨r0, r1, r2⟩, hR1, hR2, hR3, hR4, hR5, hR6⟩ := id hR
    refine V_iloadn (pc := 12) dX12_quarrel_12 rfl ?_
    refine V_aloadn (pc := 13) dX12_quarrel_13 rfl ?_
    refine V_geti (r := 0) (pc := 14) dX12_quarrel_14 fX12_118 zk_256 ?_
    rw [r0]
    refine V_icmp_ge (pc := 17) (tgt := 43) dX12_quarrel_17 (by decide) (by omega) (by omega) (fun h17 => ?_) (fun h17 => ?_)
    · exfalso; omega
    · refine V_aloadn (pc := 20) dX12_quarrel_20 rfl ?_
      refine V_iloadn (pc := 21) dX12_quarrel_21 rfl ?_
      refine V_iloadn (pc := 22) dX12_quarrel_22 rfl ?_
      refine V_iloadn (pc := 23) dX12_quarrel_23 rfl ?_
      refine V_cv3 (pc := 24) dX12_quarrel_24 kX12_302 zk_256 (by decide) (Nat.le_of_ble_eq_true rfl) (r_isQuarrel hG hmt (fun q h => hself q _ h) (by omega) (by omega) hb) rfl ?_
      refine V_ifeq_b (pc := 27) (tgt := 37) dX12_quarrel_27 (by decide) (fun h27 => ?_) (fun h27 => ?_)
      · refine V_iinc_3 (pc := 37) dX12_quarrel_37 (by decide) rfl ?_
        refine V_goto (pc := 40) (tgt := 12) dX12_quarrel_40 (by decide) ?_
        exact ih _ (by omega) (by omega) (by rw [← hR0, qT_s, if_neg (by assumption)])
      · refine V_bipush (pc := 30) dX12_quarrel_30 (by decide +kernel) ?_
        refine V_iloadn (pc := 32) dX12_quarrel_32 rfl ?_
        refine V_imul (pc := 33) dX12_quarrel_33 ?_
        refine V_iloadn (pc := 34) dX12_quarrel_34 rfl ?_
        refine V_iadd (pc := 35) dX12_quarrel_35 ?_
        refine V_iret hX dX12_quarrel_36 rfl ?_
        have hc : qF μ b p t := by assumption
        have e : qT μ b p (μ 32 0).toNat 0 = 10 * p + t := by rw [← hR0, qT_s, if_pos hc]
        exact ⟨congrArg vi (by rw [← hrt (by omega), e]), rfl⟩

set_option maxRecDepth 20000 in
theorem l_mquarrel {μ : Mem} (hG : GI μ) (hmt : ∀ p t, (0 ≤ p ∧ p < μ 32 0) → (0 ≤ t ∧ t < μ 32 0) → ¬ aT μ 80 p t 0 = -1 → ¬ mT μ 80 p t = -1 ∧ mT μ 80 p t < 1000000 ∧ ¬ gFar μ 32 p t = -1) (hself : ∀ q t, q = t → aT μ 80 q t 0 = -1) {b : Int} (hb : b = 0 ∨ b = 1) {X : ZX} {R : Int} (hX : isM X (fun w m => w = vi R ∧ m = μ)) : ∀ (n : Nat) (p : Int) (y3 : AV), (p + n = μ 32 0) → (0 ≤ p) → (qO μ b n p = R) → V X mX12_quarrel 2 [vr 256, vi b, vi p, y3] [] μ := by
  intro n
  induction n with
  | zero =>
    intro p y3 h1 h2 hR0
    obtain ⟨hL, hO, hV, hR⟩ := id hG
    obtain ⟨hL0, hL1, hL2, hL3, hL4⟩ := id hL
    obtain ⟨⟨r0, r1, r2⟩, hR1, hR2, hR3, hR4, hR5, hR6⟩ := id hR
    refine V_iloadn (pc := 2) dX12_quarrel_2 rfl ?_
    refine V_aloadn (pc := 3) dX12_quarrel_3 rfl ?_
    refine V_geti (r := 0) (pc := 4) dX12_quarrel_4 fX12_118 zk_256 ?_
    rw [r0]
    refine V_icmp_ge (pc := 7) (tgt := 49) dX12_quarrel_7 (by decide) (by omega) (by omega) (fun h7 => ?_) (fun h7 => ?_)
    · refine V_iconst (pc := 49) dX12_quarrel_49 ?_
      refine V_iret hX dX12_quarrel_50 rfl ?_
      exact ⟨congrArg vi hR0, rfl⟩
    · exfalso; omega
  | succ n ih =>
    intro p y3 h1 h2 hR0
    obtain ⟨hL, hO, hV, hR⟩ := id hG
    obtain ⟨hL0, hL1, hL2, hL3, hL4⟩ := id hL
    obtain ⟨⟨r0, r1, r2⟩, hR1, hR2, hR3, hR4, hR5, hR6⟩ := id hR
    refine V_iloadn (pc := 2) dX12_quarrel_2 rfl ?_
    refine V_aloadn (pc := 3) dX12_quarrel_3 rfl ?_
    refine V_geti (r := 0) (pc := 4) dX12_quarrel_4 fX12_118 zk_256 ?_
    rw [r0]
    refine V_icmp_ge (pc := 7) (tgt := 49) dX12_quarrel_7 (by decide) (by omega) (by omega) (fun h7 => ?_) (fun h7 => ?_)
    · exfalso; omega
    · refine V_iconst (pc := 10) dX12_quarrel_10 ?_
      refine V_istore_3 (pc := 11) dX12_quarrel_11 (by decide) rfl ?_
      refine l_mquarrelT hG hmt hself hb (by omega) hX (fun hq t => ?_) (fun hq => by rw [← hR0, qO_s, if_neg hq]) (μ 32 0).toNat 0 (by omega) (by omega) rfl
      refine V_iinc_2 (pc := 43) dX12_quarrel_43 (by decide) rfl ?_
      refine V_goto (pc := 46) (tgt := 2) dX12_quarrel_46 (by decide) ?_
      exact ih _ _ (by omega) (by omega) (by rw [← hR0, qO_s, if_pos hq])

set_option maxRecDepth 20000 in
theorem r_quarrel {μ : Mem} (hG : GI μ) (hmt : ∀ p t, (0 ≤ p ∧ p < μ 32 0) → (0 ≤ t ∧ t < μ 32 0) → ¬ aT μ 80 p t 0 = -1 → ¬ mT μ 80 p t = -1 ∧ mT μ 80 p t < 1000000 ∧ ¬ gFar μ 32 p t = -1) (hself : ∀ q t, q = t → aT μ 80 q t 0 = -1) {b : Int} (hb : b = 0 ∨ b = 1) : SP mX12_quarrel [vr 256, vi b] μ (fun w m => w = vi (qO μ b (μ 32 0).toNat 0) ∧ m = μ) := by
  refine SP_intro (ls := [vr 256, vi b, un, un]) (by decide +kernel) rfl rfl (Nat.le_of_ble_eq_true rfl) rfl (fun X hX => ?_)
  obtain ⟨hL, hO, hV, hR⟩ := id hG
  obtain ⟨hL0, hL1, hL2, hL3, hL4⟩ := id hL
  obtain ⟨⟨r0, r1, r2⟩, hR1, hR2, hR3, hR4, hR5, hR6⟩ := id hR
  refine V_iconst (pc := 0) dX12_quarrel_0 ?_
  refine V_istore_2 (pc := 1) dX12_quarrel_1 (by decide) rfl ?_
  exact l_mquarrel hG hmt hself hb hX (μ 32 0).toNat 0 _ (by omega) (by omega) rfl

abbrev nBs (μ : Mem) (p q : Int) (k : Nat) : Prop := ∀ r : Nat, r < k → ¬ (eP μ p r ∧ gBy μ 32 p r = q)
set_option maxRecDepth 20000 in
theorem l_isBeside {μ : Mem} (hG : GI μ) {p q : Int} (hp : inR p) (hq : 0 ≤ q ∧ q < 9) {X : ZX} (hX : isM X (fun w m => w = vi (bi (¬ nBs μ p q (μ 32 1).toNat)) ∧ m = μ)) : ∀ (n : Nat) (r : Int), (r + n = μ 32 1) → (0 ≤ r) → V X mX12_isBeside 5 [vr 256, vi p, vi q, vi (bi (¬ nBs μ p q r.toNat)), vi r] [] μ := by
  intro n
  induction n with
  | zero =>
    intro r h1 h2
    obtain ⟨hL, hO, hV, hR⟩ := id hG
    obtain ⟨hL0, hL1, hL2, hL3, hL4⟩ := id hL
    obtain ⟨⟨r0, r1, r2⟩, hR1, hR2, hR3, hR4, hR5, hR6⟩ := id hR
    refine V_iload (pc := 5) dX12_isBeside_5 rfl ?_
    refine V_aloadn (pc := 7) dX12_isBeside_7 rfl ?_
    refine V_geti (r := 0) (pc := 8) dX12_isBeside_8 fX12_218 zk_256 ?_
    rw [r1]
    refine V_icmp_ge (pc := 11) (tgt := 41) dX12_isBeside_11 (by decide) (by omega) (by omega) (fun h11 => ?_) (fun h11 => ?_)
    · refine V_iloadn (pc := 41) dX12_isBeside_41 rfl ?_
      refine V_zret hX dX12_isBeside_42 rfl (bi_01 _) ?_
      exact ⟨by rw [show r.toNat = (μ 32 1).toNat by omega], rfl⟩
    · exfalso; omega
  | succ n ih =>
    intro r h1 h2
    obtain ⟨hL, hO, hV, hR⟩ := id hG
    obtain ⟨hL0, hL1, hL2, hL3, hL4⟩ := id hL
    obtain ⟨⟨r0, r1, r2⟩, hR1, hR2, hR3, hR4, hR5, hR6⟩ := id hR
    have gb := gBy_rg hL p r
    have key : nBs μ p q (r + 1).toNat ↔ nBs μ p q r.toNat ∧ ¬ (eP μ p r ∧ gBy μ 32 p r = q) := by
      rw [show (r + 1).toNat = r.toNat + 1 by omega]
      constructor
      · intro h; exact ⟨fun u hu => h u (by omega), by have := h r.toNat (by omega); rw [show ((r.toNat : Nat) : Int) = r by omega] at this; exact this⟩
      · intro h u hu
        by_cases e : u < r.toNat
        · exact h.1 u e
        · have e2 : (u : Int) = r := by omega
          rw [e2]; exact h.2
    refine V_iload (pc := 5) dX12_isBeside_5 rfl ?_
    refine V_aloadn (pc := 7) dX12_isBeside_7 rfl ?_
    refine V_geti (r := 0) (pc := 8) dX12_isBeside_8 fX12_218 zk_256 ?_
    rw [r1]
    refine V_icmp_ge (pc := 11) (tgt := 41) dX12_isBeside_11 (by decide) (by omega) (by omega) (fun h11 => ?_) (fun h11 => ?_)
    · exfalso; omega
    · refine V_iloadn (pc := 14) dX12_isBeside_14 rfl ?_
      refine V_ifne_b (pc := 15) (tgt := 29) dX12_isBeside_15 (by decide) (fun h15 => ?_) (fun h15 => ?_)
      · refine V_iconst (pc := 29) dX12_isBeside_29 ?_
        refine V_goto (pc := 30) (tgt := 34) dX12_isBeside_30 (by decide) ?_
        refine V_istore_3 (pc := 34) dX12_isBeside_34 (by decide) rfl ?_
        refine V_iinc_4 (pc := 35) dX12_isBeside_35 (by decide) rfl ?_
        refine V_goto (pc := 38) (tgt := 5) dX12_isBeside_38 (by decide) ?_
        first
          | (have z := ih (r + 1) (by omega) (by omega)
             rw [bi_pos (c := ¬ nBs μ p q (r + 1).toNat) (fun h => absurd (key.mp h).1 (by assumption))] at z
             exact z)
          | (have z := ih (r + 1) (by omega) (by omega)
             rw [bi_pos (c := ¬ nBs μ p q (r + 1).toNat) (fun h => absurd (hof.mp (Classical.not_not.mp (by assumption))) (key.mp h).2)] at z
             exact z)
          | (have z := ih (r + 1) (by omega) (by omega)
             rw [bi_neg (c := ¬ nBs μ p q (r + 1).toNat) (fun h => h (key.mpr ⟨Classical.not_not.mp (by assumption), fun w => absurd (hof.mpr w) (by assumption)⟩))] at z
             exact z)
      · refine V_aloadn (pc := 18) dX12_isBeside_18 rfl ?_
        refine V_iload (pc := 19) dX12_isBeside_19 rfl ?_
        refine V_iloadn (pc := 21) dX12_isBeside_21 rfl ?_
        refine V_cv2 (pc := 22) dX12_isBeside_22 kX12_237 zk_256 (by decide) (Nat.le_of_ble_eq_true rfl) (r_otherEnd hG (by omega) hp) rfl ?_
        have hoe : inR (if eP μ p r then gBy μ 32 p r else -1) := by split <;> omega
        have hof : (if eP μ p r then gBy μ 32 p r else -1) = q ↔ (eP μ p r ∧ gBy μ 32 p r = q) := by split <;> omega
        refine V_iloadn (pc := 25) dX12_isBeside_25 rfl ?_
        refine V_icmp_ne (pc := 26) (tgt := 33) dX12_isBeside_26 (by decide) (by omega) (by omega) (fun h26 => ?_) (fun h26 => ?_)
        · refine V_iconst (pc := 33) dX12_isBeside_33 ?_
          refine V_istore_3 (pc := 34) dX12_isBeside_34 (by decide) rfl ?_
          refine V_iinc_4 (pc := 35) dX12_isBeside_35 (by decide) rfl ?_
          refine V_goto (pc := 38) (tgt := 5) dX12_isBeside_38 (by decide) ?_
          first
            | (have z := ih (r + 1) (by omega) (by omega)
               rw [bi_pos (c := ¬ nBs μ p q (r + 1).toNat) (fun h => absurd (key.mp h).1 (by assumption))] at z
               exact z)
            | (have z := ih (r + 1) (by omega) (by omega)
               rw [bi_pos (c := ¬ nBs μ p q (r + 1).toNat) (fun h => absurd (hof.mp (Classical.not_not.mp (by assumption))) (key.mp h).2)] at z
               exact z)
            | (have z := ih (r + 1) (by omega) (by omega)
               rw [bi_neg (c := ¬ nBs μ p q (r + 1).toNat) (fun h => h (key.mpr ⟨Classical.not_not.mp (by assumption), fun w => absurd (hof.mpr w) (by assumption)⟩))] at z
               exact z)
        · refine V_iconst (pc := 29) dX12_isBeside_29 ?_
          refine V_goto (pc := 30) (tgt := 34) dX12_isBeside_30 (by decide) ?_
          refine V_istore_3 (pc := 34) dX12_isBeside_34 (by decide) rfl ?_
          refine V_iinc_4 (pc := 35) dX12_isBeside_35 (by decide) rfl ?_
          refine V_goto (pc := 38) (tgt := 5) dX12_isBeside_38 (by decide) ?_
          first
            | (have z := ih (r + 1) (by omega) (by omega)
               rw [bi_pos (c := ¬ nBs μ p q (r + 1).toNat) (fun h => absurd (key.mp h).1 (by assumption))] at z
               exact z)
            | (have z := ih (r + 1) (by omega) (by omega)
               rw [bi_pos (c := ¬ nBs μ p q (r + 1).toNat) (fun h => absurd (hof.mp (Classical.not_not.mp (by assumption))) (key.mp h).2)] at z
               exact z)
            | (have z := ih (r + 1) (by omega) (by omega)
               rw [bi_neg (c := ¬ nBs μ p q (r + 1).toNat) (fun h => h (key.mpr ⟨Classical.not_not.mp (by assumption), fun w => absurd (hof.mpr w) (by assumption)⟩))] at z
               exact z)

set_option maxRecDepth 20000 in
theorem r_isBeside {μ : Mem} (hG : GI μ) {p q : Int} (hp : inR p) (hq : 0 ≤ q ∧ q < 9) : SP mX12_isBeside [vr 256, vi p, vi q] μ (fun w m => w = vi (bi (¬ nBs μ p q (μ 32 1).toNat)) ∧ m = μ) := by
  refine SP_intro (ls := [vr 256, vi p, vi q, un, un]) (by decide +kernel) rfl rfl (Nat.le_of_ble_eq_true rfl) rfl (fun X hX => ?_)
  obtain ⟨hL, hO, hV, hR⟩ := id hG
  obtain ⟨hL0, hL1, hL2, hL3, hL4⟩ := id hL
  obtain ⟨⟨r0, r1, r2⟩, hR1, hR2, hR3, hR4, hR5, hR6⟩ := id hR
  refine V_iconst (pc := 0) dX12_isBeside_0 ?_
  refine V_istore_3 (pc := 1) dX12_isBeside_1 (by decide) rfl ?_
  refine V_iconst (pc := 2) dX12_isBeside_2 ?_
  refine V_istore_4 (pc := 3) dX12_isBeside_3 (by decide) rfl ?_
  have z := l_isBeside hG hp hq hX (μ 32 1).toNat 0 (by omega) (by omega)
  rw [bi_neg (c := ¬ nBs μ p q (0 : Int).toNat) (fun h => h (fun u hu => absurd hu (by simp)))] at z
  exact z

def mSeen (μ : Mem) (p t q : Int) : Int × Mem := if (0 ≤ p ∧ p < μ 32 0) ∧ (0 ≤ t ∧ t < μ 32 0) ∧ (0 ≤ q ∧ q < μ 32 0) then (if nBs μ p q (μ 32 1).toNat ∨ gArm μ 32 p t = -1 then (-1000000002, μ) else if 40 ≤ μ 256 41 then (-1000000004, μ) else (μ 256 41 + 1, mu (mu (mu (mu μ 299 (μ 256 41).toNat p) 300 (μ 256 41).toNat t) 301 (μ 256 41).toNat q) 256 41 (μ 256 41 + 1))) else (-1000000001, μ)
def mWrite (μ : Mem) (a t e f : Int) : Int × Mem := if (0 ≤ a ∧ a < μ 32 0) ∧ (0 ≤ t ∧ t < μ 32 0) then (if (1 ≤ e ∧ e ≤ 3) ∧ 0 ≤ f ∧ f ≤ 9999 then (if 20 ≤ μ 256 49 then (-1000000004, μ) else (μ 256 49 + 1, mu (mu (mu (mu (mu μ 307 (μ 256 49).toNat a) 308 (μ 256 49).toNat t) 309 (μ 256 49).toNat e) 310 (μ 256 49).toNat f) 256 49 (μ 256 49 + 1))) else (-1000000002, μ)) else (-1000000001, μ)
def mSeed (μ : Mem) (v : Int) : Int × Mem := if v < 0 then (-1000000002, μ) else (μ 256 16, mu μ 256 16 v)
def mTurn (μ : Mem) (p k : Int) : Int × Mem := if 0 ≤ p ∧ p < μ 256 0 then (if 1 ≤ k ∧ k ≤ 99 then (if μ 266 p.toNat = 0 then (-1000000003, μ) else ((μ 270 p.toNat + k) % μ 266 p.toNat, mu μ 270 p.toNat ((μ 270 p.toNat + k) % μ 266 p.toNat))) else (-1000000002, μ)) else (-1000000001, μ)
def mFell (μ : Mem) (p i b : Int) : Int × Mem := if 0 ≤ p ∧ p < μ 256 0 then (if 0 ≤ i ∧ i < μ 266 p.toNat then (hb (μ 271 p.toNat) i, mu μ 271 p.toNat (if b = 0 then iand (μ 271 p.toNat) (ixor (ishl 1 i) (-1)) else iorr (μ 271 p.toNat) (ishl 1 i))) else (-1000000002, μ)) else (-1000000001, μ)
def mPaint (μ : Mem) (p t k : Int) : Int × Mem := if (0 ≤ p ∧ p < μ 256 0) ∧ (0 ≤ t ∧ t < μ 256 0) then (if 0 ≤ k ∧ k ≤ 999 then (if 0 ≤ μ 269 (9 * p + t).toNat ∧ ¬ hb (μ 271 p.toNat) (μ 269 (9 * p + t).toNat) = 1 then (μ 272 (9 * p + t).toNat, mu μ 272 (9 * p + t).toNat k) else (-1000000003, μ)) else (-1000000002, μ)) else (-1000000001, μ)
/-- the reference's own numbers in their bounds -/
def MB (μ : Mem) : Prop := (0 ≤ μ 256 0 ∧ μ 256 0 ≤ 9) ∧ (∀ p : Nat, 0 ≤ μ 266 p ∧ μ 266 p ≤ 5) ∧ (∀ p : Nat, 0 ≤ μ 270 p ∧ μ 270 p ≤ 4) ∧ (∀ p : Nat, 0 ≤ μ 271 p ∧ μ 271 p ≤ 31) ∧ (∀ j : Nat, inR (μ 268 j)) ∧ (∀ j : Nat, inR (μ 269 j)) ∧ (∀ j : Nat, inR (μ 272 j)) ∧ (0 ≤ μ 256 16 ∧ μ 256 16 < 2147483648)

set_option maxRecDepth 20000 in
theorem r_seen {μ : Mem} (hG : GI μ) (hs : 0 ≤ μ 256 41 ∧ μ 256 41 ≤ 40) {p t q : Int} (hp : inR p) (ht : inR t) (hq : inR q) : SP mX12_seen [vr 256, vi p, vi t, vi q] μ (fun w m => w = vi (mSeen μ p t q).1 ∧ m = (mSeen μ p t q).2) := by
  refine SP_intro (ls := [vr 256, vi p, vi t, vi q]) (by decide +kernel) rfl rfl (Nat.le_of_ble_eq_true rfl) rfl (fun X hX => ?_)
  obtain ⟨hL, hO, hV, hR⟩ := id hG
  obtain ⟨hL0, hL1, hL2, hL3, hL4⟩ := id hL
  obtain ⟨⟨r0, r1, r2⟩, hR1, hR2, hR3, hR4, hR5, hR6⟩ := id hR
  refine V_aloadn (pc := 0) dX12_seen_0 rfl ?_
  refine V_iloadn (pc := 1) dX12_seen_1 rfl ?_
  refine V_iloadn (pc := 2) dX12_seen_2 rfl ?_
  refine V_cv2 (pc := 3) dX12_seen_3 kX12_247 zk_256 (by decide) (Nat.le_of_ble_eq_true rfl) (r_areTwo (by rw [r0]; exact hL0) (by omega) (by omega)) rfl ?_
  rw [bi_cg (show ((0 ≤ p ∧ p < μ 256 0) ∧ 0 ≤ t ∧ t < μ 256 0) ↔ ((0 ≤ p ∧ p < μ 32 0) ∧ 0 ≤ t ∧ t < μ 32 0) by rw [r0])]
  refine V_ifeq_b (pc := 6) (tgt := 17) dX12_seen_6 (by decide) (fun h6 => ?_) (fun h6 => ?_)
  · refine V_ldc (pc := 17) (n := -1000000001) dX12_seen_17 nX12_246 (by decide) ?_
    refine V_iret hX dX12_seen_19 rfl ?_
    unfold mSeen
    (repeat (first | rw [if_pos (show (0 ≤ p ∧ p < μ 32 0) ∧ (0 ≤ t ∧ t < μ 32 0) ∧ (0 ≤ q ∧ q < μ 32 0) by omega)] | rw [if_neg (show ¬ ((0 ≤ p ∧ p < μ 32 0) ∧ (0 ≤ t ∧ t < μ 32 0) ∧ (0 ≤ q ∧ q < μ 32 0)) by omega)] | rw [if_pos (show nBs μ p q (μ 32 1).toNat ∨ gArm μ 32 p t = -1 from by first | exact Or.inr (by omega) | exact Or.inl (Classical.not_not.mp (by assumption)))] | rw [if_neg (show ¬ (nBs μ p q (μ 32 1).toNat ∨ gArm μ 32 p t = -1) from fun z => by rcases z with z | z; exact absurd z (by assumption); omega)] | rw [if_pos (show 40 ≤ μ 256 41 by omega)] | rw [if_neg (show ¬ 40 ≤ μ 256 41 by omega)]))
    exact ⟨rfl, rfl⟩
  · refine V_aloadn (pc := 9) dX12_seen_9 rfl ?_
    refine V_iloadn (pc := 10) dX12_seen_10 rfl ?_
    refine V_cv1 (pc := 11) dX12_seen_11 kX12_125 zk_256 (by decide) (Nat.le_of_ble_eq_true rfl) (r_isPlace (by rw [r0]; exact hL0) (by omega)) rfl ?_
    rw [bi_cg (show (0 ≤ q ∧ q < μ 256 0) ↔ (0 ≤ q ∧ q < μ 32 0) by rw [r0])]
    refine V_ifne_b (pc := 14) (tgt := 20) dX12_seen_14 (by decide) (fun h14 => ?_) (fun h14 => ?_)
    · refine V_aloadn (pc := 20) dX12_seen_20 rfl ?_
      refine V_iloadn (pc := 21) dX12_seen_21 rfl ?_
      refine V_iloadn (pc := 22) dX12_seen_22 rfl ?_
      have am := RM.arm hG (p := p) (t := t) (by omega) (by omega)
      have s5 := hL3 p.toNat
      refine V_cv2 (pc := 23) dX12_seen_23 kX12_293 zk_256 (by decide) (Nat.le_of_ble_eq_true rfl) (r_isBeside hG hp (by omega)) rfl ?_
      refine V_ifeq_b (pc := 26) (tgt := 43) dX12_seen_26 (by decide) (fun h26 => ?_) (fun h26 => ?_)
      · refine V_ldc (pc := 43) (n := -1000000002) dX12_seen_43 nX12_131 (by decide) ?_
        refine V_iret hX dX12_seen_45 rfl ?_
        unfold mSeen
        (repeat (first | rw [if_pos (show (0 ≤ p ∧ p < μ 32 0) ∧ (0 ≤ t ∧ t < μ 32 0) ∧ (0 ≤ q ∧ q < μ 32 0) by omega)] | rw [if_neg (show ¬ ((0 ≤ p ∧ p < μ 32 0) ∧ (0 ≤ t ∧ t < μ 32 0) ∧ (0 ≤ q ∧ q < μ 32 0)) by omega)] | rw [if_pos (show nBs μ p q (μ 32 1).toNat ∨ gArm μ 32 p t = -1 from by first | exact Or.inr (by omega) | exact Or.inl (Classical.not_not.mp (by assumption)))] | rw [if_neg (show ¬ (nBs μ p q (μ 32 1).toNat ∨ gArm μ 32 p t = -1) from fun z => by rcases z with z | z; exact absurd z (by assumption); omega)] | rw [if_pos (show 40 ≤ μ 256 41 by omega)] | rw [if_neg (show ¬ 40 ≤ μ 256 41 by omega)]))
        exact ⟨rfl, rfl⟩
      · refine V_aloadn (pc := 29) dX12_seen_29 rfl ?_
        refine V_getr (pc := 30) dX12_seen_30 fX12_37 zk_256 zr_256_12 ?_
        refine V_bipush (pc := 33) dX12_seen_33 (by decide +kernel) ?_
        refine V_iloadn (pc := 35) dX12_seen_35 rfl ?_
        refine V_imul (pc := 36) dX12_seen_36 ?_
        refine V_iloadn (pc := 37) dX12_seen_37 rfl ?_
        refine V_iadd (pc := 38) dX12_seen_38 ?_
        refine V_iald (pc := 39) dX12_seen_39 zk_269 (by omega) (by omega) (by decide) ?_
        rw [am.1]
        refine V_if_ge (pc := 40) (tgt := 46) dX12_seen_40 (by decide) (by omega) (fun h40 => ?_) (fun h40 => ?_)
        · refine V_aloadn (pc := 46) dX12_seen_46 rfl ?_
          refine V_geti (r := 0) (pc := 47) dX12_seen_47 fX12_230 zk_256 ?_
          refine V_bipush (pc := 50) dX12_seen_50 (by decide +kernel) ?_
          refine V_icmp_ne (pc := 52) (tgt := 58) dX12_seen_52 (by decide) (by omega) (by decide) (fun h52 => ?_) (fun h52 => ?_)
          · refine V_aloadn (pc := 58) dX12_seen_58 rfl ?_
            refine V_getr (pc := 59) dX12_seen_59 fX12_80 zk_256 zr_256_42 ?_
            refine V_aloadn (pc := 62) dX12_seen_62 rfl ?_
            refine V_geti (r := 0) (pc := 63) dX12_seen_63 fX12_230 zk_256 ?_
            refine V_iloadn (pc := 66) dX12_seen_66 rfl ?_
            refine V_iast (pc := 67) dX12_seen_67 zk_299 (by omega) (by omega) (by decide) ?_
            refine V_aloadn (pc := 68) dX12_seen_68 rfl ?_
            refine V_getr (pc := 69) dX12_seen_69 fX12_83 zk_256 zr_256_43 ?_
            refine V_aloadn (pc := 72) dX12_seen_72 rfl ?_
            refine V_geti (r := 0) (pc := 73) dX12_seen_73 fX12_230 zk_256 ?_
            rw [mu_c (by decide : (256 : Nat) ≠ 299)]
            refine V_iloadn (pc := 76) dX12_seen_76 rfl ?_
            refine V_iast (pc := 77) dX12_seen_77 zk_300 (by omega) (by omega) (by decide) ?_
            refine V_aloadn (pc := 78) dX12_seen_78 rfl ?_
            refine V_getr (pc := 79) dX12_seen_79 fX12_86 zk_256 zr_256_44 ?_
            refine V_aloadn (pc := 82) dX12_seen_82 rfl ?_
            refine V_geti (r := 0) (pc := 83) dX12_seen_83 fX12_230 zk_256 ?_
            rw [mu_c (by decide : (256 : Nat) ≠ 300)]
            rw [mu_c (by decide : (256 : Nat) ≠ 299)]
            refine V_iloadn (pc := 86) dX12_seen_86 rfl ?_
            refine V_iast (pc := 87) dX12_seen_87 zk_301 (by omega) (by omega) (by decide) ?_
            refine V_aloadn (pc := 88) dX12_seen_88 rfl ?_
            refine V_dup_r (pc := 89) dX12_seen_89 ?_
            refine V_geti (r := 0) (pc := 90) dX12_seen_90 fX12_230 zk_256 ?_
            rw [mu_c (by decide : (256 : Nat) ≠ 301)]
            rw [mu_c (by decide : (256 : Nat) ≠ 300)]
            rw [mu_c (by decide : (256 : Nat) ≠ 299)]
            refine V_iconst (pc := 93) dX12_seen_93 ?_
            refine V_iadd (pc := 94) dX12_seen_94 ?_
            refine V_puti (pc := 95) dX12_seen_95 fX12_230 zk_256 ?_
            refine V_aloadn (pc := 98) dX12_seen_98 rfl ?_
            refine V_geti (r := 0) (pc := 99) dX12_seen_99 fX12_230 zk_256 ?_
            rw [mu_h]
            refine V_iret hX dX12_seen_102 rfl ?_
            unfold mSeen
            (repeat (first | rw [if_pos (show (0 ≤ p ∧ p < μ 32 0) ∧ (0 ≤ t ∧ t < μ 32 0) ∧ (0 ≤ q ∧ q < μ 32 0) by omega)] | rw [if_neg (show ¬ ((0 ≤ p ∧ p < μ 32 0) ∧ (0 ≤ t ∧ t < μ 32 0) ∧ (0 ≤ q ∧ q < μ 32 0)) by omega)] | rw [if_pos (show nBs μ p q (μ 32 1).toNat ∨ gArm μ 32 p t = -1 from by first | exact Or.inr (by omega) | exact Or.inl (Classical.not_not.mp (by assumption)))] | rw [if_neg (show ¬ (nBs μ p q (μ 32 1).toNat ∨ gArm μ 32 p t = -1) from fun z => by rcases z with z | z; exact absurd z (by assumption); omega)] | rw [if_pos (show 40 ≤ μ 256 41 by omega)] | rw [if_neg (show ¬ 40 ≤ μ 256 41 by omega)]))
            exact ⟨rfl, rfl⟩
          · refine V_ldc (pc := 55) (n := -1000000004) dX12_seen_55 nX12_135 (by decide) ?_
            refine V_iret hX dX12_seen_57 rfl ?_
            unfold mSeen
            (repeat (first | rw [if_pos (show (0 ≤ p ∧ p < μ 32 0) ∧ (0 ≤ t ∧ t < μ 32 0) ∧ (0 ≤ q ∧ q < μ 32 0) by omega)] | rw [if_neg (show ¬ ((0 ≤ p ∧ p < μ 32 0) ∧ (0 ≤ t ∧ t < μ 32 0) ∧ (0 ≤ q ∧ q < μ 32 0)) by omega)] | rw [if_pos (show nBs μ p q (μ 32 1).toNat ∨ gArm μ 32 p t = -1 from by first | exact Or.inr (by omega) | exact Or.inl (Classical.not_not.mp (by assumption)))] | rw [if_neg (show ¬ (nBs μ p q (μ 32 1).toNat ∨ gArm μ 32 p t = -1) from fun z => by rcases z with z | z; exact absurd z (by assumption); omega)] | rw [if_pos (show 40 ≤ μ 256 41 by omega)] | rw [if_neg (show ¬ 40 ≤ μ 256 41 by omega)]))
            exact ⟨rfl, rfl⟩
        · refine V_ldc (pc := 43) (n := -1000000002) dX12_seen_43 nX12_131 (by decide) ?_
          refine V_iret hX dX12_seen_45 rfl ?_
          unfold mSeen
          (repeat (first | rw [if_pos (show (0 ≤ p ∧ p < μ 32 0) ∧ (0 ≤ t ∧ t < μ 32 0) ∧ (0 ≤ q ∧ q < μ 32 0) by omega)] | rw [if_neg (show ¬ ((0 ≤ p ∧ p < μ 32 0) ∧ (0 ≤ t ∧ t < μ 32 0) ∧ (0 ≤ q ∧ q < μ 32 0)) by omega)] | rw [if_pos (show nBs μ p q (μ 32 1).toNat ∨ gArm μ 32 p t = -1 from by first | exact Or.inr (by omega) | exact Or.inl (Classical.not_not.mp (by assumption)))] | rw [if_neg (show ¬ (nBs μ p q (μ 32 1).toNat ∨ gArm μ 32 p t = -1) from fun z => by rcases z with z | z; exact absurd z (by assumption); omega)] | rw [if_pos (show 40 ≤ μ 256 41 by omega)] | rw [if_neg (show ¬ 40 ≤ μ 256 41 by omega)]))
          exact ⟨rfl, rfl⟩
    · refine V_ldc (pc := 17) (n := -1000000001) dX12_seen_17 nX12_246 (by decide) ?_
      refine V_iret hX dX12_seen_19 rfl ?_
      unfold mSeen
      (repeat (first | rw [if_pos (show (0 ≤ p ∧ p < μ 32 0) ∧ (0 ≤ t ∧ t < μ 32 0) ∧ (0 ≤ q ∧ q < μ 32 0) by omega)] | rw [if_neg (show ¬ ((0 ≤ p ∧ p < μ 32 0) ∧ (0 ≤ t ∧ t < μ 32 0) ∧ (0 ≤ q ∧ q < μ 32 0)) by omega)] | rw [if_pos (show nBs μ p q (μ 32 1).toNat ∨ gArm μ 32 p t = -1 from by first | exact Or.inr (by omega) | exact Or.inl (Classical.not_not.mp (by assumption)))] | rw [if_neg (show ¬ (nBs μ p q (μ 32 1).toNat ∨ gArm μ 32 p t = -1) from fun z => by rcases z with z | z; exact absurd z (by assumption); omega)] | rw [if_pos (show 40 ≤ μ 256 41 by omega)] | rw [if_neg (show ¬ 40 ≤ μ 256 41 by omega)]))
      exact ⟨rfl, rfl⟩

set_option maxRecDepth 20000 in
theorem r_write {μ : Mem} (hG : GI μ) (hs : 0 ≤ μ 256 49 ∧ μ 256 49 ≤ 20) {a t e f : Int} (ha : inR a) (ht : inR t) (he : inR e) (hf : inR f) : SP mX12_write [vr 256, vi a, vi t, vi e, vi f] μ (fun w m => w = vi (mWrite μ a t e f).1 ∧ m = (mWrite μ a t e f).2) := by
  refine SP_intro (ls := [vr 256, vi a, vi t, vi e, vi f]) (by decide +kernel) rfl rfl (Nat.le_of_ble_eq_true rfl) rfl (fun X hX => ?_)
  obtain ⟨hL, hO, hV, hR⟩ := id hG
  obtain ⟨hL0, hL1, hL2, hL3, hL4⟩ := id hL
  obtain ⟨⟨r0, r1, r2⟩, hR1, hR2, hR3, hR4, hR5, hR6⟩ := id hR
  refine V_aloadn (pc := 0) dX12_write_0 rfl ?_
  refine V_iloadn (pc := 1) dX12_write_1 rfl ?_
  refine V_iloadn (pc := 2) dX12_write_2 rfl ?_
  refine V_cv2 (pc := 3) dX12_write_3 kX12_247 zk_256 (by decide) (Nat.le_of_ble_eq_true rfl) (r_areTwo (by rw [r0]; exact hL0) (by omega) (by omega)) rfl ?_
  rw [bi_cg (show ((0 ≤ a ∧ a < μ 256 0) ∧ 0 ≤ t ∧ t < μ 256 0) ↔ ((0 ≤ a ∧ a < μ 32 0) ∧ 0 ≤ t ∧ t < μ 32 0) by rw [r0])]
  refine V_ifne_b (pc := 6) (tgt := 12) dX12_write_6 (by decide) (fun h6 => ?_) (fun h6 => ?_)
  · refine V_iloadn (pc := 12) dX12_write_12 rfl ?_
    refine V_i2l (pc := 13) dX12_write_13 (by omega) ?_
    refine V_lconst1 (pc := 14) dX12_write_14 ?_
    refine V_ldc2 (pc := 15) (n := 3) dX12_write_15 nX12_328 (by decide) ?_
    refine V_cs3 (pc := 18) dX12_write_18 kX12_121 (by decide) (Nat.le_of_ble_eq_true rfl) (r_in (by omega) (by omega) (by omega)) rfl ?_
    refine V_ifeq_b (pc := 21) (tgt := 37) dX12_write_21 (by decide) (fun h21 => ?_) (fun h21 => ?_)
    · refine V_ldc (pc := 37) (n := -1000000002) dX12_write_37 nX12_131 (by decide) ?_
      refine V_iret hX dX12_write_39 rfl ?_
      unfold mWrite
      repeat (first | rw [if_pos (by omega)] | rw [if_neg (by omega)])
      exact ⟨rfl, rfl⟩
    · refine V_iload (pc := 24) dX12_write_24 rfl ?_
      refine V_i2l (pc := 26) dX12_write_26 (by omega) ?_
      refine V_lconst0 (pc := 27) dX12_write_27 ?_
      refine V_ldc2 (pc := 28) (n := 9999) dX12_write_28 nX12_330 (by decide) ?_
      refine V_cs3 (pc := 31) dX12_write_31 kX12_121 (by decide) (Nat.le_of_ble_eq_true rfl) (r_in (by omega) (by omega) (by omega)) rfl ?_
      refine V_ifne_b (pc := 34) (tgt := 40) dX12_write_34 (by decide) (fun h34 => ?_) (fun h34 => ?_)
      · refine V_aloadn (pc := 40) dX12_write_40 rfl ?_
        refine V_geti (r := 0) (pc := 41) dX12_write_41 fX12_233 zk_256 ?_
        refine V_bipush (pc := 44) dX12_write_44 (by decide +kernel) ?_
        refine V_icmp_ne (pc := 46) (tgt := 52) dX12_write_46 (by decide) (by omega) (by decide) (fun h46 => ?_) (fun h46 => ?_)
        · refine V_aloadn (pc := 52) dX12_write_52 rfl ?_
          refine V_getr (pc := 53) dX12_write_53 fX12_99 zk_256 zr_256_50 ?_
          refine V_aloadn (pc := 56) dX12_write_56 rfl ?_
          refine V_geti (r := 0) (pc := 57) dX12_write_57 fX12_233 zk_256 ?_
          refine V_iloadn (pc := 60) dX12_write_60 rfl ?_
          refine V_iast (pc := 61) dX12_write_61 zk_307 (by omega) (by omega) (by decide) ?_
          refine V_aloadn (pc := 62) dX12_write_62 rfl ?_
          refine V_getr (pc := 63) dX12_write_63 fX12_102 zk_256 zr_256_51 ?_
          refine V_aloadn (pc := 66) dX12_write_66 rfl ?_
          refine V_geti (r := 0) (pc := 67) dX12_write_67 fX12_233 zk_256 ?_
          rw [mu_c (by decide : (256 : Nat) ≠ 307)]
          refine V_iloadn (pc := 70) dX12_write_70 rfl ?_
          refine V_iast (pc := 71) dX12_write_71 zk_308 (by omega) (by omega) (by decide) ?_
          refine V_aloadn (pc := 72) dX12_write_72 rfl ?_
          refine V_getr (pc := 73) dX12_write_73 fX12_105 zk_256 zr_256_52 ?_
          refine V_aloadn (pc := 76) dX12_write_76 rfl ?_
          refine V_geti (r := 0) (pc := 77) dX12_write_77 fX12_233 zk_256 ?_
          rw [mu_c (by decide : (256 : Nat) ≠ 308)]
          rw [mu_c (by decide : (256 : Nat) ≠ 307)]
          refine V_iloadn (pc := 80) dX12_write_80 rfl ?_
          refine V_iast (pc := 81) dX12_write_81 zk_309 (by omega) (by omega) (by decide) ?_
          refine V_aloadn (pc := 82) dX12_write_82 rfl ?_
          refine V_getr (pc := 83) dX12_write_83 fX12_108 zk_256 zr_256_53 ?_
          refine V_aloadn (pc := 86) dX12_write_86 rfl ?_
          refine V_geti (r := 0) (pc := 87) dX12_write_87 fX12_233 zk_256 ?_
          rw [mu_c (by decide : (256 : Nat) ≠ 309)]
          rw [mu_c (by decide : (256 : Nat) ≠ 308)]
          rw [mu_c (by decide : (256 : Nat) ≠ 307)]
          refine V_iload (pc := 90) dX12_write_90 rfl ?_
          refine V_iast (pc := 92) dX12_write_92 zk_310 (by omega) (by omega) (by decide) ?_
          refine V_aloadn (pc := 93) dX12_write_93 rfl ?_
          refine V_dup_r (pc := 94) dX12_write_94 ?_
          refine V_geti (r := 0) (pc := 95) dX12_write_95 fX12_233 zk_256 ?_
          rw [mu_c (by decide : (256 : Nat) ≠ 310)]
          rw [mu_c (by decide : (256 : Nat) ≠ 309)]
          rw [mu_c (by decide : (256 : Nat) ≠ 308)]
          rw [mu_c (by decide : (256 : Nat) ≠ 307)]
          refine V_iconst (pc := 98) dX12_write_98 ?_
          refine V_iadd (pc := 99) dX12_write_99 ?_
          refine V_puti (pc := 100) dX12_write_100 fX12_233 zk_256 ?_
          refine V_aloadn (pc := 103) dX12_write_103 rfl ?_
          refine V_geti (r := 0) (pc := 104) dX12_write_104 fX12_233 zk_256 ?_
          rw [mu_h]
          refine V_iret hX dX12_write_107 rfl ?_
          unfold mWrite
          repeat (first | rw [if_pos (by omega)] | rw [if_neg (by omega)])
          exact ⟨rfl, rfl⟩
        · refine V_ldc (pc := 49) (n := -1000000004) dX12_write_49 nX12_135 (by decide) ?_
          refine V_iret hX dX12_write_51 rfl ?_
          unfold mWrite
          repeat (first | rw [if_pos (by omega)] | rw [if_neg (by omega)])
          exact ⟨rfl, rfl⟩
      · refine V_ldc (pc := 37) (n := -1000000002) dX12_write_37 nX12_131 (by decide) ?_
        refine V_iret hX dX12_write_39 rfl ?_
        unfold mWrite
        repeat (first | rw [if_pos (by omega)] | rw [if_neg (by omega)])
        exact ⟨rfl, rfl⟩
  · refine V_ldc (pc := 9) (n := -1000000001) dX12_write_9 nX12_246 (by decide) ?_
    refine V_iret hX dX12_write_11 rfl ?_
    unfold mWrite
    repeat (first | rw [if_pos (by omega)] | rw [if_neg (by omega)])
    exact ⟨rfl, rfl⟩

set_option maxRecDepth 20000 in
theorem r_forget {μ : Mem} : SP mX12_forget [vr 256] μ (fun w m => w = vi (μ 256 41) ∧ m = mu μ 256 41 0) := by
  refine SP_intro (ls := [vr 256, un]) (by decide +kernel) rfl rfl (Nat.le_of_ble_eq_true rfl) rfl (fun X hX => ?_)
  refine V_aloadn (pc := 0) dX12_forget_0 rfl ?_
  refine V_geti (r := 0) (pc := 1) dX12_forget_1 fX12_230 zk_256 ?_
  refine V_istore_1 (pc := 4) dX12_forget_4 (by decide) rfl ?_
  refine V_aloadn (pc := 5) dX12_forget_5 rfl ?_
  refine V_iconst (pc := 6) dX12_forget_6 ?_
  refine V_puti (pc := 7) dX12_forget_7 fX12_230 zk_256 ?_
  refine V_iloadn (pc := 10) dX12_forget_10 rfl ?_
  refine V_iret hX dX12_forget_11 rfl ?_
  exact ⟨rfl, rfl⟩

set_option maxRecDepth 20000 in
theorem r_tear {μ : Mem} : SP mX12_tear [vr 256] μ (fun w m => w = vi (μ 256 49) ∧ m = mu μ 256 49 0) := by
  refine SP_intro (ls := [vr 256, un]) (by decide +kernel) rfl rfl (Nat.le_of_ble_eq_true rfl) rfl (fun X hX => ?_)
  refine V_aloadn (pc := 0) dX12_tear_0 rfl ?_
  refine V_geti (r := 0) (pc := 1) dX12_tear_1 fX12_233 zk_256 ?_
  refine V_istore_1 (pc := 4) dX12_tear_4 (by decide) rfl ?_
  refine V_aloadn (pc := 5) dX12_tear_5 rfl ?_
  refine V_iconst (pc := 6) dX12_tear_6 ?_
  refine V_puti (pc := 7) dX12_tear_7 fX12_233 zk_256 ?_
  refine V_iloadn (pc := 10) dX12_tear_10 rfl ?_
  refine V_iret hX dX12_tear_11 rfl ?_
  exact ⟨rfl, rfl⟩

set_option maxRecDepth 20000 in
theorem r_seed {μ : Mem} {v : Int} (hv : inR v) : SP mX12_seed [vr 256, vi v] μ (fun w m => w = vi (mSeed μ v).1 ∧ m = (mSeed μ v).2) := by
  refine SP_intro (ls := [vr 256, vi v, un]) (by decide +kernel) rfl rfl (Nat.le_of_ble_eq_true rfl) rfl (fun X hX => ?_)
  refine V_iloadn (pc := 0) dX12_seed_0 rfl ?_
  refine V_if_ge (pc := 1) (tgt := 7) dX12_seed_1 (by decide) (by omega) (fun h1 => ?_) (fun h1 => ?_)
  · refine V_aloadn (pc := 7) dX12_seed_7 rfl ?_
    refine V_geti (r := 0) (pc := 8) dX12_seed_8 fX12_332 zk_256 ?_
    refine V_istore_2 (pc := 11) dX12_seed_11 (by decide) rfl ?_
    refine V_aloadn (pc := 12) dX12_seed_12 rfl ?_
    refine V_iloadn (pc := 13) dX12_seed_13 rfl ?_
    refine V_puti (pc := 14) dX12_seed_14 fX12_332 zk_256 ?_
    refine V_iloadn (pc := 17) dX12_seed_17 rfl ?_
    refine V_iret hX dX12_seed_18 rfl ?_
    unfold mSeed
    repeat (first | rw [if_pos (by omega)] | rw [if_neg (by omega)])
    exact ⟨rfl, rfl⟩
  · refine V_ldc (pc := 4) (n := -1000000002) dX12_seed_4 nX12_131 (by decide) ?_
    refine V_iret hX dX12_seed_6 rfl ?_
    unfold mSeed
    repeat (first | rw [if_pos (by omega)] | rw [if_neg (by omega)])
    exact ⟨rfl, rfl⟩

set_option maxRecDepth 20000 in
theorem r_turn {μ : Mem} (hB : MB μ) {p k : Int} (hp : inR p) (hk : inR k) : SP mX12_turn [vr 256, vi p, vi k] μ (fun w m => w = vi (mTurn μ p k).1 ∧ m = (mTurn μ p k).2) := by
  refine SP_intro (ls := [vr 256, vi p, vi k]) (by decide +kernel) rfl rfl (Nat.le_of_ble_eq_true rfl) rfl (fun X hX => ?_)
  obtain ⟨b0, b1, b2, b3, b4, b5, b6, b7⟩ := id hB
  have c1 := b1 p.toNat
  have c2 := b2 p.toNat
  refine V_aloadn (pc := 0) dX12_turn_0 rfl ?_
  refine V_iloadn (pc := 1) dX12_turn_1 rfl ?_
  refine V_cv1 (pc := 2) dX12_turn_2 kX12_125 zk_256 (by decide) (Nat.le_of_ble_eq_true rfl) (r_isPlace b0 hp) rfl ?_
  refine V_ifne_b (pc := 5) (tgt := 11) dX12_turn_5 (by decide) (fun h5 => ?_) (fun h5 => ?_)
  · refine V_iloadn (pc := 11) dX12_turn_11 rfl ?_
    refine V_i2l (pc := 12) dX12_turn_12 (by omega) ?_
    refine V_lconst1 (pc := 13) dX12_turn_13 ?_
    refine V_ldc2 (pc := 14) (n := 99) dX12_turn_14 nX12_266 (by decide) ?_
    refine V_cs3 (pc := 17) dX12_turn_17 kX12_121 (by decide) (Nat.le_of_ble_eq_true rfl) (r_in (by omega) (by omega) (by omega)) rfl ?_
    refine V_ifne_b (pc := 20) (tgt := 26) dX12_turn_20 (by decide) (fun h20 => ?_) (fun h20 => ?_)
    · refine V_aloadn (pc := 26) dX12_turn_26 rfl ?_
      refine V_getr (pc := 27) dX12_turn_27 fX12_28 zk_256 zr_256_9 ?_
      refine V_iloadn (pc := 30) dX12_turn_30 rfl ?_
      refine V_iald (pc := 31) dX12_turn_31 zk_266 (by omega) (by omega) (by decide) ?_
      refine V_if_ne (pc := 32) (tgt := 39) dX12_turn_32 (by decide) (by omega) (fun h32 => ?_) (fun h32 => ?_)
      · have t0 := tdiv_rg (a := μ 270 p.toNat + k) (b := μ 266 p.toNat) (by omega) (by omega)
        refine V_aloadn (pc := 39) dX12_turn_39 rfl ?_
        refine V_getr (pc := 40) dX12_turn_40 fX12_40 zk_256 zr_256_13 ?_
        refine V_iloadn (pc := 43) dX12_turn_43 rfl ?_
        refine V_aloadn (pc := 44) dX12_turn_44 rfl ?_
        refine V_getr (pc := 45) dX12_turn_45 fX12_40 zk_256 zr_256_13 ?_
        refine V_iloadn (pc := 48) dX12_turn_48 rfl ?_
        refine V_iald (pc := 49) dX12_turn_49 zk_270 (by omega) (by omega) (by decide) ?_
        refine V_iloadn (pc := 50) dX12_turn_50 rfl ?_
        refine V_iadd (pc := 51) dX12_turn_51 ?_
        refine V_aloadn (pc := 52) dX12_turn_52 rfl ?_
        refine V_getr (pc := 53) dX12_turn_53 fX12_28 zk_256 zr_256_9 ?_
        refine V_iloadn (pc := 56) dX12_turn_56 rfl ?_
        refine V_iald (pc := 57) dX12_turn_57 zk_266 (by omega) (by omega) (by decide) ?_
        refine V_irem (pc := 58) dX12_turn_58 (by omega) (by omega) (by omega) (by omega) ?_
        rw [Int.tmod_eq_emod_of_nonneg (by omega)]
        refine V_iast (pc := 59) dX12_turn_59 zk_270 (by omega) (by omega) (by decide) ?_
        refine V_aloadn (pc := 60) dX12_turn_60 rfl ?_
        refine V_getr (pc := 61) dX12_turn_61 fX12_40 zk_256 zr_256_13 ?_
        refine V_iloadn (pc := 64) dX12_turn_64 rfl ?_
        refine V_iald (pc := 65) dX12_turn_65 zk_270 (by omega) (by omega) (by decide) ?_
        rw [mu_h]
        refine V_iret hX dX12_turn_66 rfl ?_
        unfold mTurn
        repeat (first | rw [if_pos (by omega)] | rw [if_neg (by omega)])
        exact ⟨rfl, rfl⟩
      · refine V_ldcw (pc := 35) (n := -1000000003) dX12_turn_35 nX12_268 (by decide) ?_
        refine V_iret hX dX12_turn_38 rfl ?_
        unfold mTurn
        repeat (first | rw [if_pos (by omega)] | rw [if_neg (by omega)])
        exact ⟨rfl, rfl⟩
    · refine V_ldc (pc := 23) (n := -1000000002) dX12_turn_23 nX12_131 (by decide) ?_
      refine V_iret hX dX12_turn_25 rfl ?_
      unfold mTurn
      repeat (first | rw [if_pos (by omega)] | rw [if_neg (by omega)])
      exact ⟨rfl, rfl⟩
  · refine V_ldc (pc := 8) (n := -1000000001) dX12_turn_8 nX12_246 (by decide) ?_
    refine V_iret hX dX12_turn_10 rfl ?_
    unfold mTurn
    repeat (first | rw [if_pos (by omega)] | rw [if_neg (by omega)])
    exact ⟨rfl, rfl⟩

set_option maxRecDepth 20000 in
theorem r_fell {μ : Mem} (hB : MB μ) {p i b : Int} (hp : inR p) (hi : inR i) (hb2 : b = 0 ∨ b = 1) : SP mX12_fell [vr 256, vi p, vi i, vi b] μ (fun w m => w = vi (mFell μ p i b).1 ∧ m = (mFell μ p i b).2) := by
  refine SP_intro (ls := [vr 256, vi p, vi i, vi b, un]) (by decide +kernel) rfl rfl (Nat.le_of_ble_eq_true rfl) rfl (fun X hX => ?_)
  obtain ⟨b0, b1, b2, b3, b4, b5, b6, b7⟩ := id hB
  have c1 := b1 p.toNat
  refine V_aloadn (pc := 0) dX12_fell_0 rfl ?_
  refine V_iloadn (pc := 1) dX12_fell_1 rfl ?_
  refine V_cv1 (pc := 2) dX12_fell_2 kX12_125 zk_256 (by decide) (Nat.le_of_ble_eq_true rfl) (r_isPlace b0 hp) rfl ?_
  refine V_ifne_b (pc := 5) (tgt := 11) dX12_fell_5 (by decide) (fun h5 => ?_) (fun h5 => ?_)
  · refine V_iloadn (pc := 11) dX12_fell_11 rfl ?_
    refine V_i2l (pc := 12) dX12_fell_12 (by omega) ?_
    refine V_lconst0 (pc := 13) dX12_fell_13 ?_
    refine V_aloadn (pc := 14) dX12_fell_14 rfl ?_
    refine V_getr (pc := 15) dX12_fell_15 fX12_28 zk_256 zr_256_9 ?_
    refine V_iloadn (pc := 18) dX12_fell_18 rfl ?_
    refine V_iald (pc := 19) dX12_fell_19 zk_266 (by omega) (by omega) (by decide) ?_
    refine V_iconst (pc := 20) dX12_fell_20 ?_
    refine V_isub (pc := 21) dX12_fell_21 ?_
    refine V_i2l (pc := 22) dX12_fell_22 (by omega) ?_
    refine V_cs3 (pc := 23) dX12_fell_23 kX12_121 (by decide) (Nat.le_of_ble_eq_true rfl) (r_in (by omega) (by omega) (by omega)) rfl ?_
    refine V_ifne_b (pc := 26) (tgt := 32) dX12_fell_26 (by decide) (fun h26 => ?_) (fun h26 => ?_)
    · refine V_aloadn (pc := 32) dX12_fell_32 rfl ?_
      refine V_getr (pc := 33) dX12_fell_33 fX12_43 zk_256 zr_256_14 ?_
      refine V_iloadn (pc := 36) dX12_fell_36 rfl ?_
      refine V_iald (pc := 37) dX12_fell_37 zk_271 (by omega) (by omega) (by decide) ?_
      refine V_iloadn (pc := 38) dX12_fell_38 rfl ?_
      refine V_ishr (pc := 39) dX12_fell_39 ?_
      refine V_iconst (pc := 40) dX12_fell_40 ?_
      refine V_iand (pc := 41) dX12_fell_41 ?_
      refine V_istore_4 (pc := 42) dX12_fell_42 (by decide) rfl ?_
      refine V_aloadn (pc := 44) dX12_fell_44 rfl ?_
      refine V_getr (pc := 45) dX12_fell_45 fX12_43 zk_256 zr_256_14 ?_
      refine V_iloadn (pc := 48) dX12_fell_48 rfl ?_
      refine V_iloadn (pc := 49) dX12_fell_49 rfl ?_
      refine V_if_eq (pc := 50) (tgt := 66) dX12_fell_50 (by decide) (by omega) (fun h50 => ?_) (fun h50 => ?_)
      · refine V_aloadn (pc := 66) dX12_fell_66 rfl ?_
        refine V_getr (pc := 67) dX12_fell_67 fX12_43 zk_256 zr_256_14 ?_
        refine V_iloadn (pc := 70) dX12_fell_70 rfl ?_
        refine V_iald (pc := 71) dX12_fell_71 zk_271 (by omega) (by omega) (by decide) ?_
        refine V_iconst (pc := 72) dX12_fell_72 ?_
        refine V_iloadn (pc := 73) dX12_fell_73 rfl ?_
        refine V_ishl (pc := 74) dX12_fell_74 ?_
        refine V_iconst (pc := 75) dX12_fell_75 ?_
        refine V_ixor (pc := 76) dX12_fell_76 ?_
        refine V_iand (pc := 77) dX12_fell_77 ?_
        refine V_iast (pc := 78) dX12_fell_78 zk_271 (by omega) (by omega) (by decide) ?_
        refine V_iload (pc := 79) dX12_fell_79 rfl ?_
        refine V_iret hX dX12_fell_81 rfl ?_
        unfold mFell
        repeat (first | rw [if_pos (show 0 ≤ p ∧ p < μ 256 0 by omega)] | rw [if_neg (show ¬ (0 ≤ p ∧ p < μ 256 0) by omega)] | rw [if_pos (show 0 ≤ i ∧ i < μ 266 p.toNat by omega)] | rw [if_neg (show ¬ (0 ≤ i ∧ i < μ 266 p.toNat) by omega)] | rw [if_pos (show b = 0 by omega)] | rw [if_neg (show ¬ b = 0 by omega)])
        exact ⟨rfl, rfl⟩
      · refine V_aloadn (pc := 53) dX12_fell_53 rfl ?_
        refine V_getr (pc := 54) dX12_fell_54 fX12_43 zk_256 zr_256_14 ?_
        refine V_iloadn (pc := 57) dX12_fell_57 rfl ?_
        refine V_iald (pc := 58) dX12_fell_58 zk_271 (by omega) (by omega) (by decide) ?_
        refine V_iconst (pc := 59) dX12_fell_59 ?_
        refine V_iloadn (pc := 60) dX12_fell_60 rfl ?_
        refine V_ishl (pc := 61) dX12_fell_61 ?_
        refine V_ior (pc := 62) dX12_fell_62 ?_
        refine V_goto (pc := 63) (tgt := 78) dX12_fell_63 (by decide) ?_
        refine V_iast (pc := 78) dX12_fell_78 zk_271 (by omega) (by omega) (by decide) ?_
        refine V_iload (pc := 79) dX12_fell_79 rfl ?_
        refine V_iret hX dX12_fell_81 rfl ?_
        unfold mFell
        repeat (first | rw [if_pos (show 0 ≤ p ∧ p < μ 256 0 by omega)] | rw [if_neg (show ¬ (0 ≤ p ∧ p < μ 256 0) by omega)] | rw [if_pos (show 0 ≤ i ∧ i < μ 266 p.toNat by omega)] | rw [if_neg (show ¬ (0 ≤ i ∧ i < μ 266 p.toNat) by omega)] | rw [if_pos (show b = 0 by omega)] | rw [if_neg (show ¬ b = 0 by omega)])
        exact ⟨rfl, rfl⟩
    · refine V_ldc (pc := 29) (n := -1000000002) dX12_fell_29 nX12_131 (by decide) ?_
      refine V_iret hX dX12_fell_31 rfl ?_
      unfold mFell
      repeat (first | rw [if_pos (show 0 ≤ p ∧ p < μ 256 0 by omega)] | rw [if_neg (show ¬ (0 ≤ p ∧ p < μ 256 0) by omega)] | rw [if_pos (show 0 ≤ i ∧ i < μ 266 p.toNat by omega)] | rw [if_neg (show ¬ (0 ≤ i ∧ i < μ 266 p.toNat) by omega)] | rw [if_pos (show b = 0 by omega)] | rw [if_neg (show ¬ b = 0 by omega)])
      exact ⟨rfl, rfl⟩
  · refine V_ldc (pc := 8) (n := -1000000001) dX12_fell_8 nX12_246 (by decide) ?_
    refine V_iret hX dX12_fell_10 rfl ?_
    unfold mFell
    repeat (first | rw [if_pos (show 0 ≤ p ∧ p < μ 256 0 by omega)] | rw [if_neg (show ¬ (0 ≤ p ∧ p < μ 256 0) by omega)] | rw [if_pos (show 0 ≤ i ∧ i < μ 266 p.toNat by omega)] | rw [if_neg (show ¬ (0 ≤ i ∧ i < μ 266 p.toNat) by omega)] | rw [if_pos (show b = 0 by omega)] | rw [if_neg (show ¬ b = 0 by omega)])
    exact ⟨rfl, rfl⟩

set_option maxRecDepth 20000 in
theorem r_isToldR {μ : Mem} (hB : MB μ) {p t : Int} (hp : 0 ≤ p ∧ p < μ 256 0) (ht : 0 ≤ t ∧ t < μ 256 0) : SP mX12_isTold [vr 256, vi p, vi t] μ (fun w m => w = vi (bi (0 ≤ μ 269 (9 * p + t).toNat ∧ ¬ hb (μ 271 p.toNat) (μ 269 (9 * p + t).toNat) = 1)) ∧ m = μ) := by
  refine SP_intro (ls := [vr 256, vi p, vi t, un]) (by decide +kernel) rfl rfl (Nat.le_of_ble_eq_true rfl) rfl (fun X hX => ?_)
  obtain ⟨b0, b1, b2, b3, b4, b5, b6, b7⟩ := id hB
  have c5 := b5 (9 * p + t).toNat
  refine V_aloadn (pc := 0) dX12_isTold_0 rfl ?_
  refine V_getr (pc := 1) dX12_isTold_1 fX12_37 zk_256 zr_256_12 ?_
  refine V_bipush (pc := 4) dX12_isTold_4 (by decide +kernel) ?_
  refine V_iloadn (pc := 6) dX12_isTold_6 rfl ?_
  refine V_imul (pc := 7) dX12_isTold_7 ?_
  refine V_iloadn (pc := 8) dX12_isTold_8 rfl ?_
  refine V_iadd (pc := 9) dX12_isTold_9 ?_
  refine V_iald (pc := 10) dX12_isTold_10 zk_269 (by omega) (by omega) (by decide) ?_
  refine V_istore_3 (pc := 11) dX12_isTold_11 (by decide) rfl ?_
  refine V_iloadn (pc := 12) dX12_isTold_12 rfl ?_
  refine V_if_lt (pc := 13) (tgt := 33) dX12_isTold_13 (by decide) (by omega) (fun h13 => ?_) (fun h13 => ?_)
  · refine V_iconst (pc := 33) dX12_isTold_33 ?_
    refine V_zret hX dX12_isTold_34 rfl (by first | exact Or.inl rfl | exact Or.inr rfl | exact bi_01 _) ?_
    exact ⟨congrArg vi (by first | (exfalso; omega) | rw [bi_pos (by omega)] | rw [bi_neg (by omega)]), rfl⟩
  · refine V_aloadn (pc := 16) dX12_isTold_16 rfl ?_
    refine V_getr (pc := 17) dX12_isTold_17 fX12_43 zk_256 zr_256_14 ?_
    refine V_iloadn (pc := 20) dX12_isTold_20 rfl ?_
    refine V_iald (pc := 21) dX12_isTold_21 zk_271 (by omega) (by omega) (by decide) ?_
    refine V_iloadn (pc := 22) dX12_isTold_22 rfl ?_
    refine V_cs2 (pc := 23) dX12_isTold_23 kX12_260 (by decide) (Nat.le_of_ble_eq_true rfl) (r_has) rfl ?_
    refine V_ifne_b (pc := 26) (tgt := 33) dX12_isTold_26 (by decide) (fun h26 => ?_) (fun h26 => ?_)
    · refine V_iconst (pc := 33) dX12_isTold_33 ?_
      refine V_zret hX dX12_isTold_34 rfl (by first | exact Or.inl rfl | exact Or.inr rfl | exact bi_01 _) ?_
      exact ⟨congrArg vi (by first | (exfalso; omega) | rw [bi_pos (by omega)] | rw [bi_neg (by omega)]), rfl⟩
    · refine V_iconst (pc := 29) dX12_isTold_29 ?_
      refine V_goto (pc := 30) (tgt := 34) dX12_isTold_30 (by decide) ?_
      refine V_zret hX dX12_isTold_34 rfl (by first | exact Or.inl rfl | exact Or.inr rfl | exact bi_01 _) ?_
      exact ⟨congrArg vi (by first | (exfalso; omega) | rw [bi_pos (by omega)] | rw [bi_neg (by omega)]), rfl⟩

set_option maxRecDepth 20000 in
theorem r_paint {μ : Mem} (hB : MB μ) {p t k : Int} (hp : inR p) (ht : inR t) (hk : inR k) : SP mX12_paint [vr 256, vi p, vi t, vi k] μ (fun w m => w = vi (mPaint μ p t k).1 ∧ m = (mPaint μ p t k).2) := by
  refine SP_intro (ls := [vr 256, vi p, vi t, vi k, un]) (by decide +kernel) rfl rfl (Nat.le_of_ble_eq_true rfl) rfl (fun X hX => ?_)
  obtain ⟨b0, b1, b2, b3, b4, b5, b6, b7⟩ := id hB
  refine V_aloadn (pc := 0) dX12_paint_0 rfl ?_
  refine V_iloadn (pc := 1) dX12_paint_1 rfl ?_
  refine V_iloadn (pc := 2) dX12_paint_2 rfl ?_
  refine V_cv2 (pc := 3) dX12_paint_3 kX12_247 zk_256 (by decide) (Nat.le_of_ble_eq_true rfl) (r_areTwo b0 hp ht) rfl ?_
  refine V_ifne_b (pc := 6) (tgt := 12) dX12_paint_6 (by decide) (fun h6 => ?_) (fun h6 => ?_)
  · refine V_iloadn (pc := 12) dX12_paint_12 rfl ?_
    refine V_i2l (pc := 13) dX12_paint_13 (by omega) ?_
    refine V_lconst0 (pc := 14) dX12_paint_14 ?_
    refine V_ldc2 (pc := 15) (n := 999) dX12_paint_15 nX12_269 (by decide) ?_
    refine V_cs3 (pc := 18) dX12_paint_18 kX12_121 (by decide) (Nat.le_of_ble_eq_true rfl) (r_in (by omega) (by omega) (by omega)) rfl ?_
    refine V_ifne_b (pc := 21) (tgt := 27) dX12_paint_21 (by decide) (fun h21 => ?_) (fun h21 => ?_)
    · refine V_aloadn (pc := 27) dX12_paint_27 rfl ?_
      refine V_iloadn (pc := 28) dX12_paint_28 rfl ?_
      refine V_iloadn (pc := 29) dX12_paint_29 rfl ?_
      refine V_cv2 (pc := 30) dX12_paint_30 kX12_263 zk_256 (by decide) (Nat.le_of_ble_eq_true rfl) (r_isToldR hB (by omega) (by omega)) rfl ?_
      refine V_ifne_b (pc := 33) (tgt := 40) dX12_paint_33 (by decide) (fun h33 => ?_) (fun h33 => ?_)
      · refine V_aloadn (pc := 40) dX12_paint_40 rfl ?_
        refine V_getr (pc := 41) dX12_paint_41 fX12_46 zk_256 zr_256_15 ?_
        refine V_bipush (pc := 44) dX12_paint_44 (by decide +kernel) ?_
        refine V_iloadn (pc := 46) dX12_paint_46 rfl ?_
        refine V_imul (pc := 47) dX12_paint_47 ?_
        refine V_iloadn (pc := 48) dX12_paint_48 rfl ?_
        refine V_iadd (pc := 49) dX12_paint_49 ?_
        refine V_iald (pc := 50) dX12_paint_50 zk_272 (by omega) (by omega) (by decide) ?_
        refine V_istore_4 (pc := 51) dX12_paint_51 (by decide) rfl ?_
        refine V_aloadn (pc := 53) dX12_paint_53 rfl ?_
        refine V_getr (pc := 54) dX12_paint_54 fX12_46 zk_256 zr_256_15 ?_
        refine V_bipush (pc := 57) dX12_paint_57 (by decide +kernel) ?_
        refine V_iloadn (pc := 59) dX12_paint_59 rfl ?_
        refine V_imul (pc := 60) dX12_paint_60 ?_
        refine V_iloadn (pc := 61) dX12_paint_61 rfl ?_
        refine V_iadd (pc := 62) dX12_paint_62 ?_
        refine V_iloadn (pc := 63) dX12_paint_63 rfl ?_
        refine V_iast (pc := 64) dX12_paint_64 zk_272 (by omega) (by omega) (by decide) ?_
        refine V_iload (pc := 65) dX12_paint_65 rfl ?_
        refine V_iret hX dX12_paint_67 rfl ?_
        unfold mPaint
        repeat (first | rw [if_pos (by omega)] | rw [if_neg (by omega)])
        exact ⟨rfl, rfl⟩
      · refine V_ldcw (pc := 36) (n := -1000000003) dX12_paint_36 nX12_268 (by decide) ?_
        refine V_iret hX dX12_paint_39 rfl ?_
        unfold mPaint
        repeat (first | rw [if_pos (by omega)] | rw [if_neg (by omega)])
        exact ⟨rfl, rfl⟩
    · refine V_ldc (pc := 24) (n := -1000000002) dX12_paint_24 nX12_131 (by decide) ?_
      refine V_iret hX dX12_paint_26 rfl ?_
      unfold mPaint
      repeat (first | rw [if_pos (by omega)] | rw [if_neg (by omega)])
      exact ⟨rfl, rfl⟩
  · refine V_ldc (pc := 9) (n := -1000000001) dX12_paint_9 nX12_246 (by decide) ?_
    refine V_iret hX dX12_paint_11 rfl ?_
    unfold mPaint
    repeat (first | rw [if_pos (by omega)] | rw [if_neg (by omega)])
    exact ⟨rfl, rfl⟩

/-- the reference's sightings are the class's -/
def RS (μ : Mem) : Prop := μ 256 41 = μ 144 4 ∧ (0 ≤ μ 144 4 ∧ μ 144 4 ≤ 40) ∧ ∀ k : Nat, (k : Int) < μ 144 4 → (μ 299 k = μ 146 k ∧ μ 300 k = μ 147 k ∧ μ 301 k = μ 148 k) ∧ (0 ≤ μ 146 k ∧ μ 146 k < μ 32 0) ∧ (0 ≤ μ 147 k ∧ μ 147 k < μ 32 0) ∧ (0 ≤ μ 148 k ∧ μ 148 k < μ 32 0) ∧ ¬ gArm μ 32 (μ 146 k) (μ 147 k) = -1
/-- turn k of post p fits the first n sightings -/
abbrev fitK (μ : Mem) (p k : Int) (n : Nat) : Prop := ∀ s : Nat, s < n → μ 146 s = p → gBy μ 32 p (gRd μ 32 p (sA μ p (gArm μ 32 p (μ 147 s)) k)) = μ 148 s

set_option maxRecDepth 20000 in
theorem l_fitsS {μ : Mem} (hG : GI μ) (hS : RS μ) {p : Int} (hp : 0 ≤ p ∧ p < μ 32 0) {acc k : Int} (hk : 0 ≤ k ∧ k < μ (32 + 10) p.toNat) {X : ZX} (hex : ∀ s y6, V X mX12_fitsOf 117 [vr 256, vi p, vi acc, vi k, vi (bi (fitK μ p k (μ 144 4).toNat)), vi s, y6] [] μ) : ∀ (n : Nat) (s : Int) (y6 : AV), (s + n = μ 144 4) → (0 ≤ s) → V X mX12_fitsOf 31 [vr 256, vi p, vi acc, vi k, vi (bi (fitK μ p k s.toNat)), vi s, y6] [] μ := by
  intro n
  induction n with
  | zero =>
    intro s y6 h1 h2
    obtain ⟨hL, hO, hV, hR⟩ := id hG
    obtain ⟨hL0, hL1, hL2, hL3, hL4⟩ := id hL
    obtain ⟨⟨r0, r1, r2⟩, hR1, hR2, hR3, hR4, hR5, hR6⟩ := id hR
    obtain ⟨s0, s1, s2⟩ := id hS
    have sp := hL3 p.toNat
    have d := RM.sd hG hp
    refine V_iload (pc := 31) dX12_fitsOf_31 rfl ?_
    refine V_aloadn (pc := 33) dX12_fitsOf_33 rfl ?_
    refine V_geti (r := 0) (pc := 34) dX12_fitsOf_34 fX12_230 zk_256 ?_
    rw [s0]
    refine V_icmp_ge (pc := 37) (tgt := 117) dX12_fitsOf_37 (by decide) (by omega) (by omega) (fun h37 => ?_) (fun h37 => ?_)
    · rw [show s.toNat = (μ 144 4).toNat by omega]
      exact hex _ _
    · exfalso; omega
  | succ n ih =>
    intro s y6 h1 h2
    obtain ⟨hL, hO, hV, hR⟩ := id hG
    obtain ⟨hL0, hL1, hL2, hL3, hL4⟩ := id hL
    obtain ⟨⟨r0, r1, r2⟩, hR1, hR2, hR3, hR4, hR5, hR6⟩ := id hR
    obtain ⟨s0, s1, s2⟩ := id hS
    have sp := hL3 p.toNat
    have d := RM.sd hG hp
    have sk := s2 s.toNat (by omega)
    have am := RM.arm hG sk.2.1 sk.2.2.1
    have spq := hL3 (μ 146 s.toNat).toNat
    have key : fitK μ p k (s + 1).toNat ↔ fitK μ p k s.toNat ∧ (μ 146 s.toNat = p → gBy μ 32 p (gRd μ 32 p (sA μ p (gArm μ 32 p (μ 147 s.toNat)) k)) = μ 148 s.toNat) := by
      rw [show (s + 1).toNat = s.toNat + 1 by omega]
      constructor
      · intro h; exact ⟨fun u hu => h u (by omega), h s.toNat (by omega)⟩
      · intro h u hu
        by_cases e : u < s.toNat
        · exact h.1 u e
        · obtain rfl : u = s.toNat := by omega
          exact h.2
    refine V_iload (pc := 31) dX12_fitsOf_31 rfl ?_
    refine V_aloadn (pc := 33) dX12_fitsOf_33 rfl ?_
    refine V_geti (r := 0) (pc := 34) dX12_fitsOf_34 fX12_230 zk_256 ?_
    rw [s0]
    refine V_icmp_ge (pc := 37) (tgt := 117) dX12_fitsOf_37 (by decide) (by omega) (by omega) (fun h37 => ?_) (fun h37 => ?_)
    · exfalso; omega
    · refine V_aloadn (pc := 40) dX12_fitsOf_40 rfl ?_
      refine V_getr (pc := 41) dX12_fitsOf_41 fX12_37 zk_256 zr_256_12 ?_
      refine V_bipush (pc := 44) dX12_fitsOf_44 (by decide +kernel) ?_
      refine V_aloadn (pc := 46) dX12_fitsOf_46 rfl ?_
      refine V_getr (pc := 47) dX12_fitsOf_47 fX12_80 zk_256 zr_256_42 ?_
      refine V_iload (pc := 50) dX12_fitsOf_50 rfl ?_
      refine V_iald (pc := 52) dX12_fitsOf_52 zk_299 (by omega) (by omega) (by decide) ?_
      rw [sk.1.1]
      refine V_imul (pc := 53) dX12_fitsOf_53 ?_
      refine V_aloadn (pc := 54) dX12_fitsOf_54 rfl ?_
      refine V_getr (pc := 55) dX12_fitsOf_55 fX12_83 zk_256 zr_256_43 ?_
      refine V_iload (pc := 58) dX12_fitsOf_58 rfl ?_
      refine V_iald (pc := 60) dX12_fitsOf_60 zk_300 (by omega) (by omega) (by decide) ?_
      rw [sk.1.2.1]
      refine V_iadd (pc := 61) dX12_fitsOf_61 ?_
      refine V_iald (pc := 62) dX12_fitsOf_62 zk_269 (by omega) (by omega) (by decide) ?_
      rw [am.1]
      refine V_istore_6 (pc := 63) dX12_fitsOf_63 (by decide) rfl ?_
      refine V_iload (pc := 65) dX12_fitsOf_65 rfl ?_
      refine V_ifeq_b (pc := 67) (tgt := 108) dX12_fitsOf_67 (by decide) (fun h67 => ?_) (fun h67 => ?_)
      · refine V_iconst (pc := 108) dX12_fitsOf_108 ?_
        refine V_istore_4 (pc := 109) dX12_fitsOf_109 (by decide) rfl ?_
        refine V_iinc_5 (pc := 111) dX12_fitsOf_111 (by decide) rfl ?_
        refine V_goto (pc := 114) (tgt := 31) dX12_fitsOf_114 (by decide) ?_
        first
          | (have z := fun y => ih (s + 1) y (by omega) (by omega)
             rw [bi_pos (c := fitK μ p k (s + 1).toNat) (key.mpr ⟨by assumption, fun q => by omega⟩)] at z
             exact z _)
          | (have z := fun y => ih (s + 1) y (by omega) (by omega)
             rw [bi_neg (c := fitK μ p k (s + 1).toNat) (fun h => absurd (key.mp h).1 (by assumption))] at z
             exact z _)
          | (have z := fun y => ih (s + 1) y (by omega) (by omega)
             rw [bi_neg (c := fitK μ p k (s + 1).toNat) (fun h => by have := (key.mp h).2 (by omega); omega)] at z
             exact z _)
      · refine V_aloadn (pc := 70) dX12_fitsOf_70 rfl ?_
        refine V_getr (pc := 71) dX12_fitsOf_71 fX12_80 zk_256 zr_256_42 ?_
        refine V_iload (pc := 74) dX12_fitsOf_74 rfl ?_
        refine V_iald (pc := 76) dX12_fitsOf_76 zk_299 (by omega) (by omega) (by decide) ?_
        rw [sk.1.1]
        refine V_iloadn (pc := 77) dX12_fitsOf_77 rfl ?_
        refine V_icmp_ne (pc := 78) (tgt := 104) dX12_fitsOf_78 (by decide) (by omega) (by omega) (fun h78 => ?_) (fun h78 => ?_)
        · refine V_iconst (pc := 104) dX12_fitsOf_104 ?_
          refine V_goto (pc := 105) (tgt := 109) dX12_fitsOf_105 (by decide) ?_
          refine V_istore_4 (pc := 109) dX12_fitsOf_109 (by decide) rfl ?_
          refine V_iinc_5 (pc := 111) dX12_fitsOf_111 (by decide) rfl ?_
          refine V_goto (pc := 114) (tgt := 31) dX12_fitsOf_114 (by decide) ?_
          first
            | (have z := fun y => ih (s + 1) y (by omega) (by omega)
               rw [bi_pos (c := fitK μ p k (s + 1).toNat) (key.mpr ⟨by assumption, fun q => by omega⟩)] at z
               exact z _)
            | (have z := fun y => ih (s + 1) y (by omega) (by omega)
               rw [bi_neg (c := fitK μ p k (s + 1).toNat) (fun h => absurd (key.mp h).1 (by assumption))] at z
               exact z _)
            | (have z := fun y => ih (s + 1) y (by omega) (by omega)
               rw [bi_neg (c := fitK μ p k (s + 1).toNat) (fun h => by have := (key.mp h).2 (by omega); omega)] at z
               exact z _)
        · have ep : μ 146 s.toNat = p := by omega
          rw [ep] at am sk
          rw [ep]
          have eS : sA μ p (gArm μ 32 p (μ 147 s.toNat)) k = (gArm μ 32 p (μ 147 s.toNat) + k) % gSd μ 32 p := by unfold sA; rw [if_pos (by omega)]
          have m1 := Int.emod_nonneg (gArm μ 32 p (μ 147 s.toNat) + k) (show gSd μ 32 p ≠ 0 by omega)
          have m2 := Int.emod_lt_of_pos (gArm μ 32 p (μ 147 s.toNat) + k) (show 0 < gSd μ 32 p by omega)
          have sd := hV.side hp (i := sA μ p (gArm μ 32 p (μ 147 s.toNat)) k) (by rw [eS]; omega)
          have gb := gBy_rg hL p (gRd μ 32 p (sA μ p (gArm μ 32 p (μ 147 s.toNat)) k))
          refine V_aloadn (pc := 81) dX12_fitsOf_81 rfl ?_
          refine V_aloadn (pc := 82) dX12_fitsOf_82 rfl ?_
          refine V_iloadn (pc := 83) dX12_fitsOf_83 rfl ?_
          refine V_iload (pc := 84) dX12_fitsOf_84 rfl ?_
          refine V_iloadn (pc := 86) dX12_fitsOf_86 rfl ?_
          refine V_cv3 (pc := 87) dX12_fitsOf_87 kX12_256 zk_256 (by decide) (Nat.le_of_ble_eq_true rfl) (r_stands hG hp (by omega) (by omega)) rfl ?_
          refine V_iloadn (pc := 90) dX12_fitsOf_90 rfl ?_
          refine V_cv2 (pc := 91) dX12_fitsOf_91 kX12_237 zk_256 (by decide) (Nat.le_of_ble_eq_true rfl) (r_otherEnd hG (by omega) (by omega)) rfl ?_
          rw [if_pos sd.2.2]
          refine V_aloadn (pc := 94) dX12_fitsOf_94 rfl ?_
          refine V_getr (pc := 95) dX12_fitsOf_95 fX12_86 zk_256 zr_256_44 ?_
          refine V_iload (pc := 98) dX12_fitsOf_98 rfl ?_
          refine V_iald (pc := 100) dX12_fitsOf_100 zk_301 (by omega) (by omega) (by decide) ?_
          rw [sk.1.2.2]
          refine V_icmp_ne (pc := 101) (tgt := 108) dX12_fitsOf_101 (by decide) (by omega) (by omega) (fun h101 => ?_) (fun h101 => ?_)
          · refine V_iconst (pc := 108) dX12_fitsOf_108 ?_
            refine V_istore_4 (pc := 109) dX12_fitsOf_109 (by decide) rfl ?_
            refine V_iinc_5 (pc := 111) dX12_fitsOf_111 (by decide) rfl ?_
            refine V_goto (pc := 114) (tgt := 31) dX12_fitsOf_114 (by decide) ?_
            first
              | (have z := fun y => ih (s + 1) y (by omega) (by omega)
                 rw [bi_pos (c := fitK μ p k (s + 1).toNat) (key.mpr ⟨by assumption, fun q => by omega⟩)] at z
                 exact z _)
              | (have z := fun y => ih (s + 1) y (by omega) (by omega)
                 rw [bi_neg (c := fitK μ p k (s + 1).toNat) (fun h => absurd (key.mp h).1 (by assumption))] at z
                 exact z _)
              | (have z := fun y => ih (s + 1) y (by omega) (by omega)
                 rw [bi_neg (c := fitK μ p k (s + 1).toNat) (fun h => by have := (key.mp h).2 (by omega); omega)] at z
                 exact z _)
          · refine V_iconst (pc := 104) dX12_fitsOf_104 ?_
            refine V_goto (pc := 105) (tgt := 109) dX12_fitsOf_105 (by decide) ?_
            refine V_istore_4 (pc := 109) dX12_fitsOf_109 (by decide) rfl ?_
            refine V_iinc_5 (pc := 111) dX12_fitsOf_111 (by decide) rfl ?_
            refine V_goto (pc := 114) (tgt := 31) dX12_fitsOf_114 (by decide) ?_
            first
              | (have z := fun y => ih (s + 1) y (by omega) (by omega)
                 rw [bi_pos (c := fitK μ p k (s + 1).toNat) (key.mpr ⟨by assumption, fun q => by omega⟩)] at z
                 exact z _)
              | (have z := fun y => ih (s + 1) y (by omega) (by omega)
                 rw [bi_neg (c := fitK μ p k (s + 1).toNat) (fun h => absurd (key.mp h).1 (by assumption))] at z
                 exact z _)
              | (have z := fun y => ih (s + 1) y (by omega) (by omega)
                 rw [bi_neg (c := fitK μ p k (s + 1).toNat) (fun h => by have := (key.mp h).2 (by omega); omega)] at z
                 exact z _)

set_option maxRecDepth 20000 in
theorem l_fitsK {μ : Mem} (hG : GI μ) (hS : RS μ) {p : Int} (hp : 0 ≤ p ∧ p < μ 32 0) (hn0 : ¬ μ (32 + 10) p.toNat = 0) {R : Int} {X : ZX} (hX : isM X (fun w m => w = vi R ∧ m = μ)) : ∀ (n : Nat) (k acc : Int) (y4 y5 y6 : AV), (k + n = μ (32 + 10) p.toNat) → (0 ≤ k) → (inR acc) → (sb (fun k => fitK μ p k (μ 144 4).toNat) n k acc = R) → V X mX12_fitsOf 15 [vr 256, vi p, vi acc, vi k, y4, y5, y6] [] μ := by
  intro n
  induction n with
  | zero =>
    intro k acc y4 y5 y6 h1 h2 h3 hR0
    obtain ⟨hL, hO, hV, hR⟩ := id hG
    obtain ⟨hL0, hL1, hL2, hL3, hL4⟩ := id hL
    obtain ⟨⟨r0, r1, r2⟩, hR1, hR2, hR3, hR4, hR5, hR6⟩ := id hR
    obtain ⟨s0, s1, s2⟩ := id hS
    have sp := hL3 p.toNat
    have d := RM.sd hG hp
    refine V_iloadn (pc := 15) dX12_fitsOf_15 rfl ?_
    refine V_aloadn (pc := 16) dX12_fitsOf_16 rfl ?_
    refine V_getr (pc := 17) dX12_fitsOf_17 fX12_28 zk_256 zr_256_9 ?_
    refine V_iloadn (pc := 20) dX12_fitsOf_20 rfl ?_
    refine V_iald (pc := 21) dX12_fitsOf_21 zk_266 (by omega) (by omega) (by decide) ?_
    rw [d.1]
    refine V_icmp_ge (pc := 22) (tgt := 138) dX12_fitsOf_22 (by decide) (by omega) (by omega) (fun h22 => ?_) (fun h22 => ?_)
    · refine V_iloadn (pc := 138) dX12_fitsOf_138 rfl ?_
      refine V_iret hX dX12_fitsOf_139 rfl ?_
      exact ⟨congrArg vi hR0, rfl⟩
    · exfalso; omega
  | succ n ih =>
    intro k acc y4 y5 y6 h1 h2 h3 hR0
    obtain ⟨hL, hO, hV, hR⟩ := id hG
    obtain ⟨hL0, hL1, hL2, hL3, hL4⟩ := id hL
    obtain ⟨⟨r0, r1, r2⟩, hR1, hR2, hR3, hR4, hR5, hR6⟩ := id hR
    obtain ⟨s0, s1, s2⟩ := id hS
    have sp := hL3 p.toNat
    have d := RM.sd hG hp
    refine V_iloadn (pc := 15) dX12_fitsOf_15 rfl ?_
    refine V_aloadn (pc := 16) dX12_fitsOf_16 rfl ?_
    refine V_getr (pc := 17) dX12_fitsOf_17 fX12_28 zk_256 zr_256_9 ?_
    refine V_iloadn (pc := 20) dX12_fitsOf_20 rfl ?_
    refine V_iald (pc := 21) dX12_fitsOf_21 zk_266 (by omega) (by omega) (by decide) ?_
    rw [d.1]
    refine V_icmp_ge (pc := 22) (tgt := 138) dX12_fitsOf_22 (by decide) (by omega) (by omega) (fun h22 => ?_) (fun h22 => ?_)
    · exfalso; omega
    · refine V_iconst (pc := 25) dX12_fitsOf_25 ?_
      refine V_istore_4 (pc := 26) dX12_fitsOf_26 (by decide) rfl ?_
      refine V_iconst (pc := 28) dX12_fitsOf_28 ?_
      refine V_istore_5 (pc := 29) dX12_fitsOf_29 (by decide) rfl ?_
      have z := l_fitsS hG hS hp (acc := acc) (k := k) (by omega) (X := X) (fun s y6 => ?_) (μ 144 4).toNat 0 y6 (by omega) (by omega)
      · rw [bi_pos (c := fitK μ p k (0 : Int).toNat) (fun u hu => absurd hu (by simp))] at z
        exact z
      · refine V_iloadn (pc := 117) dX12_fitsOf_117 rfl ?_
        refine V_iload (pc := 118) dX12_fitsOf_118 rfl ?_
        refine V_ifeq_b (pc := 120) (tgt := 129) dX12_fitsOf_120 (by decide) (fun h120 => ?_) (fun h120 => ?_)
        · refine V_iconst (pc := 129) dX12_fitsOf_129 ?_
          refine V_ior (pc := 130) dX12_fitsOf_130 ?_
          refine V_istore_2 (pc := 131) dX12_fitsOf_131 (by decide) rfl ?_
          refine V_iinc_3 (pc := 132) dX12_fitsOf_132 (by decide) rfl ?_
          refine V_goto (pc := 135) (tgt := 15) dX12_fitsOf_135 (by decide) ?_
          exact ih _ _ _ _ _ (by omega) (by omega) (zi_rg _) (by rw [← hR0, sb_s, if_neg h120, iorr_r0 h3])
        · refine V_iconst (pc := 123) dX12_fitsOf_123 ?_
          refine V_iloadn (pc := 124) dX12_fitsOf_124 rfl ?_
          refine V_ishl (pc := 125) dX12_fitsOf_125 ?_
          refine V_goto (pc := 126) (tgt := 130) dX12_fitsOf_126 (by decide) ?_
          refine V_ior (pc := 130) dX12_fitsOf_130 ?_
          refine V_istore_2 (pc := 131) dX12_fitsOf_131 (by decide) rfl ?_
          refine V_iinc_3 (pc := 132) dX12_fitsOf_132 (by decide) rfl ?_
          refine V_goto (pc := 135) (tgt := 15) dX12_fitsOf_135 (by decide) ?_
          exact ih _ _ _ _ _ (by omega) (by omega) (zi_rg _) (by rw [← hR0, sb_s, if_pos h120])

def mFit (μ : Mem) (p : Int) : Int := if gSd μ 32 p = 0 then 1 else sb (fun k => fitK μ p k (μ 144 4).toNat) (gSd μ 32 p).toNat 0 0

set_option maxRecDepth 20000 in
theorem r_fitsOf {μ : Mem} (hG : GI μ) (hS : RS μ) {p : Int} (hp : 0 ≤ p ∧ p < μ 32 0) : SP mX12_fitsOf [vr 256, vi p] μ (fun w m => w = vi (mFit μ p) ∧ m = μ) := by
  refine SP_intro (ls := [vr 256, vi p, un, un, un, un, un]) (by decide +kernel) rfl rfl (Nat.le_of_ble_eq_true rfl) rfl (fun X hX => ?_)
  obtain ⟨hL, hO, hV, hR⟩ := id hG
  obtain ⟨hL0, hL1, hL2, hL3, hL4⟩ := id hL
  obtain ⟨⟨r0, r1, r2⟩, hR1, hR2, hR3, hR4, hR5, hR6⟩ := id hR
  obtain ⟨s0, s1, s2⟩ := id hS
  have sp := hL3 p.toNat
  have d := RM.sd hG hp
  refine V_aloadn (pc := 0) dX12_fitsOf_0 rfl ?_
  refine V_getr (pc := 1) dX12_fitsOf_1 fX12_28 zk_256 zr_256_9 ?_
  refine V_iloadn (pc := 4) dX12_fitsOf_4 rfl ?_
  refine V_iald (pc := 5) dX12_fitsOf_5 zk_266 (by omega) (by omega) (by decide) ?_
  rw [d.1]
  refine V_if_ne (pc := 6) (tgt := 11) dX12_fitsOf_6 (by decide) (by omega) (fun h6 => ?_) (fun h6 => ?_)
  · refine V_iconst (pc := 11) dX12_fitsOf_11 ?_
    refine V_istore_2 (pc := 12) dX12_fitsOf_12 (by decide) rfl ?_
    refine V_iconst (pc := 13) dX12_fitsOf_13 ?_
    refine V_istore_3 (pc := 14) dX12_fitsOf_14 (by decide) rfl ?_
    exact l_fitsK hG hS hp (by omega) hX (μ (32 + 10) p.toNat).toNat 0 0 _ _ _ (by omega) (by omega) (by decide) (by unfold mFit; rw [if_neg (by omega), d.2.2.2.1])
  · refine V_iconst (pc := 9) dX12_fitsOf_9 ?_
    refine V_iret hX dX12_fitsOf_10 rfl ?_
    exact ⟨congrArg vi (by unfold mFit; rw [if_pos (by omega)]), rfl⟩

set_option maxRecDepth 20000 in
theorem r_fits {μ : Mem} (hG : GI μ) (hS : RS μ) {p : Int} (hp : inR p) : SP mX12_fits [vr 256, vi p] μ (fun w m => w = vi (if 0 ≤ p ∧ p < μ 32 0 then mFit μ p else -1000000001) ∧ m = μ) := by
  refine SP_intro (ls := [vr 256, vi p]) (by decide +kernel) rfl rfl (Nat.le_of_ble_eq_true rfl) rfl (fun X hX => ?_)
  obtain ⟨hL, hO, hV, hR⟩ := id hG
  obtain ⟨hL0, hL1, hL2, hL3, hL4⟩ := id hL
  obtain ⟨⟨r0, r1, r2⟩, hR1, hR2, hR3, hR4, hR5, hR6⟩ := id hR
  refine V_aloadn (pc := 0) dX12_fits_0 rfl ?_
  refine V_iloadn (pc := 1) dX12_fits_1 rfl ?_
  refine V_cv1 (pc := 2) dX12_fits_2 kX12_125 zk_256 (by decide) (Nat.le_of_ble_eq_true rfl) (r_isPlace (by rw [r0]; exact hL0) (by omega)) rfl ?_
  rw [bi_cg (show (0 ≤ p ∧ p < μ 256 0) ↔ (0 ≤ p ∧ p < μ 32 0) by rw [r0])]
  refine V_ifeq_b (pc := 5) (tgt := 16) dX12_fits_5 (by decide) (fun h5 => ?_) (fun h5 => ?_)
  · refine V_ldc (pc := 16) (n := -1000000001) dX12_fits_16 nX12_246 (by decide) ?_
    refine V_iret hX dX12_fits_18 rfl ?_
    exact ⟨congrArg vi (by first | rw [if_pos (by omega)] | rw [if_neg (by omega)]), rfl⟩
  · refine V_aloadn (pc := 8) dX12_fits_8 rfl ?_
    refine V_iloadn (pc := 9) dX12_fits_9 rfl ?_
    refine V_cv1 (pc := 10) dX12_fits_10 kX12_296 zk_256 (by decide) (Nat.le_of_ble_eq_true rfl) (r_fitsOf hG hS (by omega)) rfl ?_
    refine V_goto (pc := 13) (tgt := 18) dX12_fits_13 (by decide) ?_
    refine V_iret hX dX12_fits_18 rfl ?_
    exact ⟨congrArg vi (by first | rw [if_pos (by omega)] | rw [if_neg (by omega)]), rfl⟩

set_option maxRecDepth 20000 in
theorem l_msure {μ : Mem} (hG : GI μ) (hS : RS μ) (hbf : ∀ p, inR (bitsF (mFit μ p))) {X : ZX} {R : Int} (hX : isM X (fun w m => w = vi R ∧ m = μ)) : ∀ (n : Nat) (p acc : Int), (p + n = μ 32 0) → (0 ≤ p) → (inR acc) → (sb (fun p => bitsF (mFit μ p) = 1) n p acc = R) → V X mX12_sure 4 [vr 256, vi acc, vi p] [] μ := by
  intro n
  induction n with
  | zero =>
    intro p acc h1 h2 h3 hR0
    obtain ⟨hL, hO, hV, hR⟩ := id hG
    obtain ⟨hL0, hL1, hL2, hL3, hL4⟩ := id hL
    obtain ⟨⟨r0, r1, r2⟩, hR1, hR2, hR3, hR4, hR5, hR6⟩ := id hR
    refine V_iloadn (pc := 4) dX12_sure_4 rfl ?_
    refine V_aloadn (pc := 5) dX12_sure_5 rfl ?_
    refine V_geti (r := 0) (pc := 6) dX12_sure_6 fX12_118 zk_256 ?_
    rw [r0]
    refine V_icmp_ge (pc := 9) (tgt := 40) dX12_sure_9 (by decide) (by omega) (by omega) (fun h9 => ?_) (fun h9 => ?_)
    · refine V_iloadn (pc := 40) dX12_sure_40 rfl ?_
      refine V_iret hX dX12_sure_41 rfl ?_
      exact ⟨congrArg vi hR0, rfl⟩
    · exfalso; omega
  | succ n ih =>
    intro p acc h1 h2 h3 hR0
    obtain ⟨hL, hO, hV, hR⟩ := id hG
    obtain ⟨hL0, hL1, hL2, hL3, hL4⟩ := id hL
    obtain ⟨⟨r0, r1, r2⟩, hR1, hR2, hR3, hR4, hR5, hR6⟩ := id hR
    have bf := hbf p
    refine V_iloadn (pc := 4) dX12_sure_4 rfl ?_
    refine V_aloadn (pc := 5) dX12_sure_5 rfl ?_
    refine V_geti (r := 0) (pc := 6) dX12_sure_6 fX12_118 zk_256 ?_
    rw [r0]
    refine V_icmp_ge (pc := 9) (tgt := 40) dX12_sure_9 (by decide) (by omega) (by omega) (fun h9 => ?_) (fun h9 => ?_)
    · exfalso; omega
    · refine V_iloadn (pc := 12) dX12_sure_12 rfl ?_
      refine V_aloadn (pc := 13) dX12_sure_13 rfl ?_
      refine V_iloadn (pc := 14) dX12_sure_14 rfl ?_
      refine V_cv1 (pc := 15) dX12_sure_15 kX12_296 zk_256 (by decide) (Nat.le_of_ble_eq_true rfl) (r_fitsOf hG hS (by omega)) rfl ?_
      refine V_cs1 (pc := 18) dX12_sure_18 kX12_299 (by decide) (Nat.le_of_ble_eq_true rfl) (r_bits) rfl ?_
      refine V_iconst (pc := 21) dX12_sure_21 ?_
      refine V_icmp_ne (pc := 22) (tgt := 31) dX12_sure_22 (by decide) (by omega) (by decide) (fun h22 => ?_) (fun h22 => ?_)
      · refine V_iconst (pc := 31) dX12_sure_31 ?_
        refine V_ior (pc := 32) dX12_sure_32 ?_
        refine V_istore_1 (pc := 33) dX12_sure_33 (by decide) rfl ?_
        refine V_iinc_2 (pc := 34) dX12_sure_34 (by decide) rfl ?_
        refine V_goto (pc := 37) (tgt := 4) dX12_sure_37 (by decide) ?_
        exact ih _ _ (by omega) (by omega) (zi_rg _) (by rw [← hR0, sb_s]; first | (rw [if_pos (by omega)]; done) | rw [if_neg (by omega), iorr_r0 h3])
      · refine V_iconst (pc := 25) dX12_sure_25 ?_
        refine V_iloadn (pc := 26) dX12_sure_26 rfl ?_
        refine V_ishl (pc := 27) dX12_sure_27 ?_
        refine V_goto (pc := 28) (tgt := 32) dX12_sure_28 (by decide) ?_
        refine V_ior (pc := 32) dX12_sure_32 ?_
        refine V_istore_1 (pc := 33) dX12_sure_33 (by decide) rfl ?_
        refine V_iinc_2 (pc := 34) dX12_sure_34 (by decide) rfl ?_
        refine V_goto (pc := 37) (tgt := 4) dX12_sure_37 (by decide) ?_
        exact ih _ _ (by omega) (by omega) (zi_rg _) (by rw [← hR0, sb_s]; first | (rw [if_pos (by omega)]; done) | rw [if_neg (by omega), iorr_r0 h3])

set_option maxRecDepth 20000 in
theorem r_sure {μ : Mem} (hG : GI μ) (hS : RS μ) (hbf : ∀ p, inR (bitsF (mFit μ p))) : SP mX12_sure [vr 256] μ (fun w m => w = vi (sb (fun p => bitsF (mFit μ p) = 1) (μ 32 0).toNat 0 0) ∧ m = μ) := by
  refine SP_intro (ls := [vr 256, un, un]) (by decide +kernel) rfl rfl (Nat.le_of_ble_eq_true rfl) rfl (fun X hX => ?_)
  obtain ⟨hL, hO, hV, hR⟩ := id hG
  obtain ⟨hL0, hL1, hL2, hL3, hL4⟩ := id hL
  obtain ⟨⟨r0, r1, r2⟩, hR1, hR2, hR3, hR4, hR5, hR6⟩ := id hR
  refine V_iconst (pc := 0) dX12_sure_0 ?_
  refine V_istore_1 (pc := 1) dX12_sure_1 (by decide) rfl ?_
  refine V_iconst (pc := 2) dX12_sure_2 ?_
  refine V_istore_2 (pc := 3) dX12_sure_3 (by decide) rfl ?_
  exact l_msure hG hS hbf hX (μ 32 0).toNat 0 0 (by omega) (by omega) (by decide) rfl


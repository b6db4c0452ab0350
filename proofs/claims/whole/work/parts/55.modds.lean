def mby (b k : Int) : Int := l2i (landd (lshr b (8 * k)) 255)
def map1 (m : Mem) (x : Int) : Mem := mu (mu m 274 (m 256 18).toNat x) 256 18 (m 256 18 + 1)
def mfeedL (b : Int) : Nat → Mem → Mem
  | 0, m => m
  | n + 1, m => mfeedL b n (map1 m (mby b n))
theorem mfeedL_s {b : Int} {n : Nat} {m : Mem} : mfeedL b (n + 1) m = mfeedL b n (map1 m (mby b n)) := rfl
theorem mfeedL_18 {b : Int} : ∀ (n : Nat) (m : Mem), mfeedL b n m 256 18 = m 256 18 + n := by
  intro n
  induction n with
  | zero => intro m; simp [mfeedL]
  | succ n ih =>
    intro m
    rw [mfeedL_s, ih]
    unfold map1
    rw [mu_h]
    omega
def mFeed (μ : Mem) (n b : Int) : Int × Mem := if 1 ≤ n ∧ n ≤ 8 then (if 400 < μ 256 18 + n then (-1000000004, μ) else (μ 256 18 + n, mfeedL b n.toNat μ)) else (-1000000002, μ)

set_option maxRecDepth 20000 in
theorem l_mfeed {n0 b : Int} {R : Mem} {X : ZX} (hX : isM X (fun w m => w = vi (R 256 18) ∧ m = R)) : ∀ (n : Nat) (k : Int) (ν : Mem), (k + 1 = n) → (0 ≤ ν 256 18 ∧ ν 256 18 + n ≤ 400) → (mfeedL b n ν = R) → V X mX12_feed 35 [vr 256, vi n0, vl b, un, vi k] [] ν := by
  intro n
  induction n with
  | zero =>
    intro k ν h1 h2 hR
    refine V_iload (pc := 35) dX12_feed_35 rfl ?_
    refine V_if_lt (pc := 37) (tgt := 77) dX12_feed_37 (by decide) (by omega) (fun h37 => ?_) (fun h37 => ?_)
    · refine V_aloadn (pc := 77) dX12_feed_77 rfl ?_
      refine V_geti (r := 0) (pc := 78) dX12_feed_78 fX12_132 zk_256 ?_
      refine V_iret hX dX12_feed_81 rfl ?_
      subst hR
      exact ⟨rfl, rfl⟩
    · exfalso; omega
  | succ n ih =>
    intro k ν h1 h2 hR
    refine V_iload (pc := 35) dX12_feed_35 rfl ?_
    refine V_if_lt (pc := 37) (tgt := 77) dX12_feed_37 (by decide) (by omega) (fun h37 => ?_) (fun h37 => ?_)
    · exfalso; omega
    · refine V_aloadn (pc := 40) dX12_feed_40 rfl ?_
      refine V_getr (pc := 41) dX12_feed_41 fX12_49 zk_256 zr_256_17 ?_
      refine V_aloadn (pc := 44) dX12_feed_44 rfl ?_
      refine V_geti (r := 0) (pc := 45) dX12_feed_45 fX12_132 zk_256 ?_
      refine V_lloadn (pc := 48) dX12_feed_48 rfl ?_
      refine V_bipush (pc := 49) dX12_feed_49 (by decide +kernel) ?_
      refine V_iload (pc := 51) dX12_feed_51 rfl ?_
      refine V_imul (pc := 53) dX12_feed_53 ?_
      refine V_lshr (pc := 54) dX12_feed_54 ?_
      refine V_ldc2 (pc := 55) (n := 255) dX12_feed_55 nX12_136 (by decide) ?_
      refine V_land (pc := 58) dX12_feed_58 ?_
      refine V_l2i (pc := 59) dX12_feed_59 ?_
      refine V_iast (pc := 60) dX12_feed_60 zk_274 (by omega) (by omega) (by decide) ?_
      refine V_aloadn (pc := 61) dX12_feed_61 rfl ?_
      refine V_dup_r (pc := 62) dX12_feed_62 ?_
      refine V_geti (r := 0) (pc := 63) dX12_feed_63 fX12_132 zk_256 ?_
      rw [mu_c (by decide : (256 : Nat) ≠ 274)]
      refine V_iconst (pc := 66) dX12_feed_66 ?_
      refine V_iadd (pc := 67) dX12_feed_67 ?_
      refine V_puti (pc := 68) dX12_feed_68 fX12_132 zk_256 ?_
      refine V_iinc_4 (pc := 71) dX12_feed_71 (by decide) rfl ?_
      refine V_goto (pc := 74) (tgt := 35) dX12_feed_74 (by decide) ?_
      refine ih _ _ (by omega) (by rw [mu_h]; omega) ?_
      rw [← hR, mfeedL_s]
      unfold map1 mby
      rw [show k = (n : Int) by omega]

set_option maxRecDepth 20000 in
theorem r_feed {μ : Mem} (h : 0 ≤ μ 256 18 ∧ μ 256 18 ≤ 400) {n b : Int} (hn : inR n) : SP mX12_feed [vr 256, vi n, vl b] μ (fun w m => w = vi (mFeed μ n b).1 ∧ m = (mFeed μ n b).2) := by
  refine SP_intro (ls := [vr 256, vi n, vl b, un, un]) (by decide +kernel) rfl rfl (Nat.le_of_ble_eq_true rfl) rfl (fun X hX => ?_)
  refine V_iloadn (pc := 0) dX12_feed_0 rfl ?_
  refine V_i2l (pc := 1) dX12_feed_1 (by omega) ?_
  refine V_lconst1 (pc := 2) dX12_feed_2 ?_
  refine V_ldc2 (pc := 3) (n := 8) dX12_feed_3 nX12_129 (by decide) ?_
  refine V_cs3 (pc := 6) dX12_feed_6 kX12_121 (by decide) (Nat.le_of_ble_eq_true rfl) (r_in (by omega) (by decide) (by decide)) rfl ?_
  refine V_ifne_b (pc := 9) (tgt := 15) dX12_feed_9 (by decide) (fun h9 => ?_) (fun h9 => ?_)
  · refine V_aloadn (pc := 15) dX12_feed_15 rfl ?_
    refine V_geti (r := 0) (pc := 16) dX12_feed_16 fX12_132 zk_256 ?_
    refine V_iloadn (pc := 19) dX12_feed_19 rfl ?_
    refine V_iadd (pc := 20) dX12_feed_20 ?_
    refine V_sipush (pc := 21) dX12_feed_21 (by decide +kernel) ?_
    refine V_icmp_le (pc := 24) (tgt := 30) dX12_feed_24 (by decide) (by omega) (by decide) (fun h24 => ?_) (fun h24 => ?_)
    · refine V_iloadn (pc := 30) dX12_feed_30 rfl ?_
      refine V_iconst (pc := 31) dX12_feed_31 ?_
      refine V_isub (pc := 32) dX12_feed_32 ?_
      refine V_istore_4 (pc := 33) dX12_feed_33 (by decide) rfl ?_
      have e : mFeed μ n b = ((mfeedL b n.toNat μ) 256 18, mfeedL b n.toNat μ) := by
        unfold mFeed; rw [if_pos (by omega), if_neg (by omega), mfeedL_18, show ((n.toNat : Nat) : Int) = n by omega]
      rw [e] at hX
      exact l_mfeed hX n.toNat _ _ (by omega) (by omega) rfl
    · refine V_ldc (pc := 27) (n := -1000000004) dX12_feed_27 nX12_135 (by decide) ?_
      refine V_iret hX dX12_feed_29 rfl ?_
      unfold mFeed
      rw [if_pos (by omega), if_pos (by omega)]
      exact ⟨rfl, rfl⟩
  · refine V_ldc (pc := 12) (n := -1000000002) dX12_feed_12 nX12_131 (by decide) ?_
    refine V_iret hX dX12_feed_14 rfl ?_
    unfold mFeed
    rw [if_neg (by omega)]
    exact ⟨rfl, rfl⟩

/-! THE ODDS, BY A STACK OF WAYS -/
def vI (μ : Mem) (t o x was od : Int) : Int := shT μ t o (10 - (bitsF was).toNat) x was od (bitsF was)
def SV (μ : Mem) (t o : Int) (ν : Mem) : Nat → Int
  | 0 => 0
  | n + 1 => SV μ t o ν n + vI μ t o (ν 302 n) (ν 303 n) (ν 304 n)
def wt (s : Int) : Nat := 6 ^ (9 - (bitsF s).toNat)
def SMs (ν : Mem) : Nat → Nat
  | 0 => 0
  | n + 1 => SMs ν n + wt (ν 303 n)
def itOK (μ : Mem) (t x was od : Int) (j : Nat) : Prop := (0 ≤ x ∧ x < μ 32 0) ∧ ¬ x = t ∧ (0 ≤ was ∧ was < 512) ∧ hb was x = 0 ∧ (0 < od ∧ od ≤ 1000000000) ∧ (j : Int) ≤ 4 * bitsF was
def sm3 (μ ν : Mem) (n : Nat) : Prop := ∀ j, j < n → ν 302 j = μ 302 j ∧ ν 303 j = μ 303 j ∧ ν 304 j = μ 304 j
theorem SV_cg {μ : Mem} {t o : Int} {ν ξ : Mem} : ∀ (n : Nat), sm3 ν ξ n → SV μ t o ξ n = SV μ t o ν n := by
  intro n
  induction n with
  | zero => intro _; rfl
  | succ n ih =>
    intro h
    have h1 := h n (by omega)
    show SV μ t o ξ n + _ = SV μ t o ν n + _
    rw [ih (fun j hj => h j (by omega)), h1.1, h1.2.1, h1.2.2]
theorem SMs_cg {ν ξ : Mem} : ∀ (n : Nat), sm3 ν ξ n → SMs ξ n = SMs ν n := by
  intro n
  induction n with
  | zero => intro _; rfl
  | succ n ih =>
    intro h
    have h1 := h n (by omega)
    show SMs ξ n + _ = SMs ν n + _
    rw [ih (fun j hj => h j (by omega)), h1.2.1]
def MOf (μ ν : Mem) : Prop := (∀ c, c ≠ 256 → (c < 302 ∨ 304 < c) → ν c = μ c) ∧ ∀ j, j ≠ 48 → ν 256 j = μ 256 j
theorem MOf.rf (μ : Mem) : MOf μ μ := ⟨fun _ _ _ => rfl, fun _ _ => rfl⟩
theorem MOf.mc {μ ν : Mem} (h : MOf μ ν) : MC μ ν := ⟨fun k hk => h.1 k (by omega) (by omega), fun k a b => h.1 k (by omega) (by omega), fun j hj => h.2 j (by omega)⟩
theorem MOf.mj {μ ν : Mem} (h : MOf μ ν) {v : Int} : MOf μ (mu ν 256 48 v) := ⟨fun c a b => (mu_ne a).trans (h.1 c a b), fun j hj => (mu_j hj).trans (h.2 j hj)⟩
theorem MOf.mr {μ ν : Mem} (h : MOf μ ν) {c j : Nat} {v : Int} (hc : 302 ≤ c ∧ c ≤ 304) : MOf μ (mu ν c j v) := ⟨fun d a b => (mu_ne (by omega)).trans (h.1 d a b), fun i hi => (mu_c (by omega)).trans (h.2 i hi)⟩
def awM (ν : Mem) (x was od : Int) : Mem := mu (mu (mu (mu ν 302 (ν 256 48).toNat x) 303 (ν 256 48).toNat was) 304 (ν 256 48).toNat od) 256 48 (ν 256 48 + 1)

set_option maxRecDepth 20000 in
theorem r_addWay {μ : Mem} (h : 0 ≤ μ 256 48 ∧ μ 256 48 < 64) {x was od : Int} : SP mX12_addWay [vr 256, vi x, vi was, vl od] μ (fun w m => w = un ∧ m = awM μ x was od) := by
  refine SP_intro (ls := [vr 256, vi x, vi was, vl od, un]) (by decide +kernel) rfl rfl (Nat.le_of_ble_eq_true rfl) rfl (fun X hX => ?_)
  refine V_aloadn (pc := 0) dX12_addWay_0 rfl ?_
  refine V_getr (pc := 1) dX12_addWay_1 fX12_89 zk_256 zr_256_45 ?_
  refine V_aloadn (pc := 4) dX12_addWay_4 rfl ?_
  refine V_geti (r := 0) (pc := 5) dX12_addWay_5 fX12_309 zk_256 ?_
  refine V_iloadn (pc := 8) dX12_addWay_8 rfl ?_
  refine V_iast (pc := 9) dX12_addWay_9 zk_302 (by omega) (by omega) (by decide) ?_
  refine V_aloadn (pc := 10) dX12_addWay_10 rfl ?_
  refine V_getr (pc := 11) dX12_addWay_11 fX12_92 zk_256 zr_256_46 ?_
  refine V_aloadn (pc := 14) dX12_addWay_14 rfl ?_
  refine V_geti (r := 0) (pc := 15) dX12_addWay_15 fX12_309 zk_256 ?_
  rw [mu_c (by decide : (256 : Nat) ≠ 302)]
  refine V_iloadn (pc := 18) dX12_addWay_18 rfl ?_
  refine V_iast (pc := 19) dX12_addWay_19 zk_303 (by omega) (by omega) (by decide) ?_
  refine V_aloadn (pc := 20) dX12_addWay_20 rfl ?_
  refine V_getr (pc := 21) dX12_addWay_21 fX12_95 zk_256 zr_256_47 ?_
  refine V_aloadn (pc := 24) dX12_addWay_24 rfl ?_
  refine V_geti (r := 0) (pc := 25) dX12_addWay_25 fX12_309 zk_256 ?_
  rw [mu_c (by decide : (256 : Nat) ≠ 303)]
  rw [mu_c (by decide : (256 : Nat) ≠ 302)]
  refine V_lloadn (pc := 28) dX12_addWay_28 rfl ?_
  refine V_last (pc := 29) dX12_addWay_29 zk_304 (by omega) (by omega) (by decide) ?_
  refine V_aloadn (pc := 30) dX12_addWay_30 rfl ?_
  refine V_dup_r (pc := 31) dX12_addWay_31 ?_
  refine V_geti (r := 0) (pc := 32) dX12_addWay_32 fX12_309 zk_256 ?_
  rw [mu_c (by decide : (256 : Nat) ≠ 304)]
  rw [mu_c (by decide : (256 : Nat) ≠ 303)]
  rw [mu_c (by decide : (256 : Nat) ≠ 302)]
  refine V_iconst (pc := 35) dX12_addWay_35 ?_
  refine V_iadd (pc := 36) dX12_addWay_36 ?_
  refine V_puti (pc := 37) dX12_addWay_37 fX12_309 zk_256 ?_
  refine V_vret (x := 0) hX dX12_addWay_40 rfl ?_
  exact ⟨rfl, rfl⟩

theorem awM_new {ν : Mem} {x was od : Int} : awM ν x was od 302 (ν 256 48).toNat = x ∧ awM ν x was od 303 (ν 256 48).toNat = was ∧ awM ν x was od 304 (ν 256 48).toNat = od ∧ awM ν x was od 256 48 = ν 256 48 + 1 := by
  unfold awM
  refine ⟨?_, ?_, ?_, mu_h⟩
  · rw [mu_c (by decide), mu_c (by decide), mu_c (by decide), mu_h]
  · rw [mu_c (by decide), mu_c (by decide), mu_h]
  · rw [mu_c (by decide), mu_h]
theorem awM_old {ν : Mem} {x was od : Int} {n : Nat} (hn : (n : Int) ≤ ν 256 48) : sm3 ν (awM ν x was od) n := by
  intro j hj
  unfold awM
  refine ⟨?_, ?_, ?_⟩
  · rw [mu_c (by decide), mu_c (by decide), mu_c (by decide), mu_j (by omega)]
  · rw [mu_c (by decide), mu_c (by decide), mu_j (by omega), mu_c (by decide)]
  · rw [mu_c (by decide), mu_j (by omega), mu_c (by decide), mu_c (by decide)]
theorem MOf_aw {μ ν : Mem} (h : MOf μ ν) {x was od : Int} : MOf μ (awM ν x was od) := (((h.mr (by decide)).mr (by decide)).mr (by decide)).mj
theorem bits_or : ∀ s : Nat, s < 512 → ∀ q : Nat, q < 9 → hb (s : Int) (q : Int) = 0 → bitsF (iorr (s : Int) (ishl 1 (q : Int))) = bitsF (s : Int) + 1 ∧ 0 ≤ iorr (s : Int) (ishl 1 (q : Int)) ∧ iorr (s : Int) (ishl 1 (q : Int)) < 512 ∧ bitsF (s : Int) ≤ 8 := by decide +kernel
theorem bits_or' {s q : Int} (hs : 0 ≤ s ∧ s < 512) (hq : 0 ≤ q ∧ q < 9) (h : hb s q = 0) : bitsF (iorr s (ishl 1 q)) = bitsF s + 1 ∧ 0 ≤ iorr s (ishl 1 q) ∧ iorr s (ishl 1 q) < 512 ∧ bitsF s ≤ 8 := by
  obtain ⟨n, rfl⟩ := Int.eq_ofNat_of_zero_le hs.1
  obtain ⟨m, rfl⟩ := Int.eq_ofNat_of_zero_le hq.1
  exact bits_or n (by omega) m (by omega) h
/-- the next place of a way -/
theorem nx_ok {μ : Mem} (hG : GI μ) {x t : Int} (hx : 0 ≤ x ∧ x < μ 32 0) (ha : 0 ≤ gArm μ 32 x t ∧ gArm μ 32 x t < μ (32 + 10) x.toNat) (k : Int) : (0 ≤ gRd μ 32 x (sA μ x (gArm μ 32 x t) k) ∧ gRd μ 32 x (sA μ x (gArm μ 32 x t) k) < μ 32 1) ∧ eP μ x (gRd μ 32 x (sA μ x (gArm μ 32 x t) k)) ∧ (0 ≤ nxt μ x t k ∧ nxt μ x t k < μ 32 0) := by
  obtain ⟨hL, hO, hV, hR⟩ := id hG
  have e0 : gSd μ 32 x = μ (32 + 10) x.toNat := by unfold gSd; rw [if_pos hx]
  have hs : 0 < gSd μ 32 x := by omega
  have eS : sA μ x (gArm μ 32 x t) k = (gArm μ 32 x t + k) % gSd μ 32 x := by unfold sA; rw [if_pos hs]
  have sd := hV.side hx (i := sA μ x (gArm μ 32 x t) k) (by rw [eS]; exact ⟨Int.emod_nonneg _ (by omega), by rw [← e0]; exact Int.emod_lt_of_pos _ hs⟩)
  have o1 := hV.one sd.2.1
  refine ⟨sd.2.1, sd.2.2, ?_⟩
  unfold nxt
  rw [gBy_eq sd.2.1]
  split <;> omega
theorem aT_z {μ : Mem} {x t : Int} (hx : 0 ≤ x ∧ x < μ 32 0) (ha : gArm μ 32 x t < 31) (hA : -1 ≤ gArm μ 32 x t) : aT μ 80 x t 0 = -1 ↔ (gArm μ 32 x t < 0 ∨ hb (μ (80 + 3) x.toNat) (gArm μ 32 x t) = 1) := by
  have h0 : ¬ In 0 x := by
    intro q
    have : ∀ n : Nat, n < 31 → hb 0 (n : Int) = 0 := by decide +kernel
    have h2 := this x.toNat (by omega)
    rw [show ((x.toNat : Nat) : Int) = x by omega] at h2
    exact q.2.2 h2
  unfold aT
  by_cases hm : gArm μ 32 x t = -1
  · rw [if_neg (fun q => q.1 hm)]
    exact ⟨fun _ => Or.inl (by omega), fun _ => hm⟩
  · have i2 := In_iff (s := μ (80 + 3) x.toNat) (k := gArm μ 32 x t) (by omega)
    by_cases c : hb (μ (80 + 3) x.toNat) (gArm μ 32 x t) = 1
    · rw [if_pos ⟨hm, ⟨hx, i2.mpr c⟩, h0⟩]
      exact ⟨fun _ => Or.inr c, fun _ => rfl⟩
    · rw [if_neg (fun q => c (i2.mp q.2.1.2))]
      exact ⟨fun q => absurd q hm, fun q => by rcases q with q | q; omega; exact absurd q c⟩
theorem shT_t {μ : Mem} {t o : Int} {n : Nat} {x been sh dep : Int} (h : x = t) : shT μ t o n x been sh dep = sh := by
  cases n with
  | zero => unfold shT; rw [if_pos h]
  | succ n => unfold shT; rw [if_pos h]
theorem shT_0 {μ : Mem} {t o : Int} {n : Nat} {x been sh dep : Int} (h : ¬ x = t) (h2 : sh = 0 ∨ In been x) : shT μ t o n x been sh dep = 0 := by
  cases n with
  | zero => unfold shT; rw [if_neg h]
  | succ n =>
    unfold shT
    rw [if_neg h, if_pos]
    rcases h2 with q | q
    · exact Or.inl q
    · exact Or.inr (Or.inr (Or.inl q))

theorem oth_n {S k T : Int} (h : ¬ k = T) : S - k - (if k ≤ T then 1 else 0) - 1 = S - (k + 1) - (if k + 1 ≤ T then 1 else 0) := by
  by_cases hle : k ≤ T
  · rw [if_pos hle, if_pos (by omega)]; omega
  · rw [if_neg hle, if_neg (by omega)]; omega

section
variable {X : ZX} {μ : Mem}
set_option maxRecDepth 20000 in
theorem l_part2 (hG : GI μ) {t o p was od asi : Int} (ht : 0 ≤ t ∧ t < μ 32 0) (hp : 0 ≤ p ∧ p < μ 32 0) (ha : 0 ≤ gArm μ 32 p t ∧ gArm μ 32 p t < μ (32 + 10) p.toNat) (hwas : 0 ≤ was ∧ was < 512) (hbw : 1 ≤ bitsF was ∧ bitsF was ≤ 9) {β : Mem} {w0 : Nat} (hw0 : (w0 : Int) + 4 ≤ 4 * bitsF was) {come left oth k by1 : Int} (hk : 0 ≤ k ∧ k < μ (32 + 10) p.toNat) (hby : 0 ≤ by1 ∧ by1 ≤ 1000000000) {y18 : AV} {ν0 : Mem} {c0 : Nat} (m1 : MOf μ ν0) (m2 : ν0 256 48 = (c0 : Int)) (m3 : w0 ≤ c0) (m4 : (c0 : Int) ≤ w0 + k) (m5 : ∀ j, w0 ≤ j → j < c0 → itOK μ t (ν0 302 j) (ν0 303 j) (ν0 304 j) j ∧ ν0 303 j = was) (m6 : sm3 β ν0 w0) (hN : ∀ (come2 : Int) (y18 : AV) (ν : Mem) (c : Nat), (MOf μ ν) → (ν 256 48 = (c : Int)) → (w0 ≤ c) → ((c : Int) ≤ w0 + (k + 1)) → (∀ j, w0 ≤ j → j < c → itOK μ t (ν 302 j) (ν 303 j) (ν 304 j) j ∧ ν 303 j = was) → (sm3 β ν w0) → (come2 + SV μ t o ν c = come + SV μ t o ν0 c0 + shT μ t o (10 - (bitsF was).toNat) (nxt μ p t k) was by1 (bitsF was)) → V X mX12_partWay 132 [vr 256, vi t, vi o, vi p, vi was, vl od, un, vi (gArm μ 32 p t), vl come2, un, vl asi, un, vl left, un, vi oth, vi (k + 1), vl by1, un, y18] [] ν) : V X mX12_partWay 176 [vr 256, vi t, vi o, vi p, vi was, vl od, un, vi (gArm μ 32 p t), vl come, un, vl asi, un, vl left, un, vi oth, vi k, vl by1, un, y18] [] ν0 := by
  have hmc := m1.mc
  have hg := hmc.ag
  have hGn := GI_mc hmc hG
  obtain ⟨hL, hO, hV, hRM⟩ := id hG
  obtain ⟨hL0, hL1, hL2, hL3, hL4⟩ := id hL
  have e32 : ν0 32 0 = μ 32 0 := by rw [hg 32 (by decide)]
  have e321 : ν0 32 1 = μ 32 1 := by rw [hg 32 (by decide)]
  have e42 : ν0 (32 + 10) p.toNat = μ (32 + 10) p.toNat := by rw [hg (32 + 10) (by decide)]
  have s5 := hL3 p.toNat
  obtain ⟨x1, x2, x3⟩ := nx_ok hG hp ha k
  have i1 := In_iff (s := was) (k := nxt μ p t k) (by omega)
  refine V_aloadn (pc := 176) dX12_partWay_176 rfl ?_
  refine V_aloadn (pc := 177) dX12_partWay_177 rfl ?_
  refine V_iloadn (pc := 178) dX12_partWay_178 rfl ?_
  refine V_iload (pc := 179) dX12_partWay_179 rfl ?_
  refine V_iload (pc := 181) dX12_partWay_181 rfl ?_
  refine V_cv3 (pc := 183) dX12_partWay_183 kX12_256 zk_256 (by decide) (Nat.le_of_ble_eq_true rfl) (r_stands hGn (by rw [e32]; exact hp) (by rw [e42]; exact ha) (by omega)) rfl ?_
  rw [gRd_ag hg, sA_ag hg]
  refine V_iloadn (pc := 186) dX12_partWay_186 rfl ?_
  refine V_cv2 (pc := 187) dX12_partWay_187 kX12_237 zk_256 (by decide) (Nat.le_of_ble_eq_true rfl) (r_otherEnd hGn (by rw [e321]; exact x1) (by omega)) rfl ?_
  rw [if_pos (show eP ν0 p (gRd μ 32 p (sA μ p (gArm μ 32 p t) k)) by unfold eP; rw [hg (32 + 4) (by decide), hg (32 + 5) (by decide)]; exact x2), gBy_ag hg]
  change V X mX12_partWay (187 + 3) _ [vi (nxt μ p t k)] ν0
  refine V_istore_18 (pc := 190) dX12_partWay_190 (by decide) rfl ?_
  refine V_iload (pc := 192) dX12_partWay_192 rfl ?_
  refine V_iloadn (pc := 194) dX12_partWay_194 rfl ?_
  refine V_icmp_ne (pc := 195) (tgt := 208) dX12_partWay_195 (by decide) (by omega) (by omega) (fun h195 => ?_) (fun h195 => ?_)
  · refine V_iload (pc := 208) dX12_partWay_208 rfl ?_
    refine V_iload (pc := 210) dX12_partWay_210 rfl ?_
    refine V_cs2 (pc := 212) dX12_partWay_212 kX12_260 (by decide) (Nat.le_of_ble_eq_true rfl) (r_has) rfl ?_
    refine V_ifne_b (pc := 215) (tgt := 235) dX12_partWay_215 (by decide) (fun h215 => ?_) (fun h215 => ?_)
    · refine V_iinc_15 (pc := 235) dX12_partWay_235 (by decide) rfl ?_
      refine V_goto (pc := 238) (tgt := 132) dX12_partWay_238 (by decide) ?_
      first
        | (have hq1 : nxt μ p t k = t := by omega
           refine hN (come + by1) _ ν0 c0 m1 m2 m3 (by omega) m5 m6 ?_
           rw [shT_t (by omega)]; omega)
        | (have hq1 : hb was (nxt μ p t k) = 1 ∨ by1 = 0 := by omega
           refine hN come _ ν0 c0 m1 m2 m3 (by omega) m5 m6 ?_
           rw [shT_0 (by omega) (by first | exact Or.inr (i1.mpr (by omega)) | exact Or.inl (by omega))]; omega)
        | (have hnew := awM_new (ν := ν0) (x := nxt μ p t k) (was := was) (od := by1)
           have ec : (ν0 256 48).toNat = c0 := by omega
           rw [ec] at hnew
           have hold := awM_old (ν := ν0) (x := nxt μ p t k) (was := was) (od := by1) (n := c0) (by omega)
           refine hN come _ (awM ν0 (nxt μ p t k) was by1) (c0 + 1) (MOf_aw m1) (by rw [hnew.2.2.2]; omega) (by omega) (by omega) (fun j j1 j2 => ?_) (fun j hj => ?_) ?_
           · by_cases e : j = c0
             · subst e
               rw [hnew.1, hnew.2.1, hnew.2.2.1]
               exact ⟨⟨x3, by omega, hwas, by have := hb_01 was (nxt μ p t k); omega, by omega, by omega⟩, rfl⟩
             · have h1 := hold j (by omega)
               rw [h1.1, h1.2.1, h1.2.2]
               exact m5 j j1 (by omega)
           · have h1 := hold j (by omega)
             have h2 := m6 j hj
             exact ⟨h1.1.trans h2.1, h1.2.1.trans h2.2.1, h1.2.2.trans h2.2.2⟩
           · show come + (SV μ t o _ c0 + vI μ t o _ _ _) = _
             rw [SV_cg c0 hold, hnew.1, hnew.2.1, hnew.2.2.1]
             unfold vI
             omega)
    · refine V_lload (pc := 218) dX12_partWay_218 rfl ?_
      refine V_lconst0 (pc := 220) dX12_partWay_220 ?_
      refine V_lcmp (pc := 221) dX12_partWay_221 (by omega) (by omega) ?_
      have hc1 := lcm_gt by1 0
      have hc2 : inR (lcm by1 0) := lcm_rg _ _
      refine V_if_le (pc := 222) (tgt := 235) dX12_partWay_222 (by decide) (by omega) (fun h222 => ?_) (fun h222 => ?_)
      · refine V_iinc_15 (pc := 235) dX12_partWay_235 (by decide) rfl ?_
        refine V_goto (pc := 238) (tgt := 132) dX12_partWay_238 (by decide) ?_
        first
          | (have hq1 : nxt μ p t k = t := by omega
             refine hN (come + by1) _ ν0 c0 m1 m2 m3 (by omega) m5 m6 ?_
             rw [shT_t (by omega)]; omega)
          | (have hq1 : hb was (nxt μ p t k) = 1 ∨ by1 = 0 := by omega
             refine hN come _ ν0 c0 m1 m2 m3 (by omega) m5 m6 ?_
             rw [shT_0 (by omega) (by first | exact Or.inr (i1.mpr (by omega)) | exact Or.inl (by omega))]; omega)
          | (have hnew := awM_new (ν := ν0) (x := nxt μ p t k) (was := was) (od := by1)
             have ec : (ν0 256 48).toNat = c0 := by omega
             rw [ec] at hnew
             have hold := awM_old (ν := ν0) (x := nxt μ p t k) (was := was) (od := by1) (n := c0) (by omega)
             refine hN come _ (awM ν0 (nxt μ p t k) was by1) (c0 + 1) (MOf_aw m1) (by rw [hnew.2.2.2]; omega) (by omega) (by omega) (fun j j1 j2 => ?_) (fun j hj => ?_) ?_
             · by_cases e : j = c0
               · subst e
                 rw [hnew.1, hnew.2.1, hnew.2.2.1]
                 exact ⟨⟨x3, by omega, hwas, by have := hb_01 was (nxt μ p t k); omega, by omega, by omega⟩, rfl⟩
               · have h1 := hold j (by omega)
                 rw [h1.1, h1.2.1, h1.2.2]
                 exact m5 j j1 (by omega)
             · have h1 := hold j (by omega)
               have h2 := m6 j hj
               exact ⟨h1.1.trans h2.1, h1.2.1.trans h2.2.1, h1.2.2.trans h2.2.2⟩
             · show come + (SV μ t o _ c0 + vI μ t o _ _ _) = _
               rw [SV_cg c0 hold, hnew.1, hnew.2.1, hnew.2.2.1]
               unfold vI
               omega)
      · refine V_aloadn (pc := 225) dX12_partWay_225 rfl ?_
        refine V_iload (pc := 226) dX12_partWay_226 rfl ?_
        refine V_iload (pc := 228) dX12_partWay_228 rfl ?_
        refine V_lload (pc := 230) dX12_partWay_230 rfl ?_
        refine V_cu3 (pc := 232) dX12_partWay_232 kX12_314 zk_256 (by decide) (Nat.le_of_ble_eq_true rfl) (r_addWay (by omega)) ?_
        refine V_iinc_15 (pc := 235) dX12_partWay_235 (by decide) rfl ?_
        refine V_goto (pc := 238) (tgt := 132) dX12_partWay_238 (by decide) ?_
        first
          | (have hq1 : nxt μ p t k = t := by omega
             refine hN (come + by1) _ ν0 c0 m1 m2 m3 (by omega) m5 m6 ?_
             rw [shT_t (by omega)]; omega)
          | (have hq1 : hb was (nxt μ p t k) = 1 ∨ by1 = 0 := by omega
             refine hN come _ ν0 c0 m1 m2 m3 (by omega) m5 m6 ?_
             rw [shT_0 (by omega) (by first | exact Or.inr (i1.mpr (by omega)) | exact Or.inl (by omega))]; omega)
          | (have hnew := awM_new (ν := ν0) (x := nxt μ p t k) (was := was) (od := by1)
             have ec : (ν0 256 48).toNat = c0 := by omega
             rw [ec] at hnew
             have hold := awM_old (ν := ν0) (x := nxt μ p t k) (was := was) (od := by1) (n := c0) (by omega)
             refine hN come _ (awM ν0 (nxt μ p t k) was by1) (c0 + 1) (MOf_aw m1) (by rw [hnew.2.2.2]; omega) (by omega) (by omega) (fun j j1 j2 => ?_) (fun j hj => ?_) ?_
             · by_cases e : j = c0
               · subst e
                 rw [hnew.1, hnew.2.1, hnew.2.2.1]
                 exact ⟨⟨x3, by omega, hwas, by have := hb_01 was (nxt μ p t k); omega, by omega, by omega⟩, rfl⟩
               · have h1 := hold j (by omega)
                 rw [h1.1, h1.2.1, h1.2.2]
                 exact m5 j j1 (by omega)
             · have h1 := hold j (by omega)
               have h2 := m6 j hj
               exact ⟨h1.1.trans h2.1, h1.2.1.trans h2.2.1, h1.2.2.trans h2.2.2⟩
             · show come + (SV μ t o _ c0 + vI μ t o _ _ _) = _
               rw [SV_cg c0 hold, hnew.1, hnew.2.1, hnew.2.2.1]
               unfold vI
               omega)
  · refine V_lload (pc := 198) dX12_partWay_198 rfl ?_
    refine V_lload (pc := 200) dX12_partWay_200 rfl ?_
    refine V_ladd (pc := 202) dX12_partWay_202 ?_
    refine V_lstore_8 (pc := 203) dX12_partWay_203 (by decide) rfl ?_
    refine V_goto (pc := 205) (tgt := 235) dX12_partWay_205 (by decide) ?_
    refine V_iinc_15 (pc := 235) dX12_partWay_235 (by decide) rfl ?_
    refine V_goto (pc := 238) (tgt := 132) dX12_partWay_238 (by decide) ?_
    first
      | (have hq1 : nxt μ p t k = t := by omega
         refine hN (come + by1) _ ν0 c0 m1 m2 m3 (by omega) m5 m6 ?_
         rw [shT_t (by omega)]; omega)
      | (have hq1 : hb was (nxt μ p t k) = 1 ∨ by1 = 0 := by omega
         refine hN come _ ν0 c0 m1 m2 m3 (by omega) m5 m6 ?_
         rw [shT_0 (by omega) (by first | exact Or.inr (i1.mpr (by omega)) | exact Or.inl (by omega))]; omega)
      | (have hnew := awM_new (ν := ν0) (x := nxt μ p t k) (was := was) (od := by1)
         have ec : (ν0 256 48).toNat = c0 := by omega
         rw [ec] at hnew
         have hold := awM_old (ν := ν0) (x := nxt μ p t k) (was := was) (od := by1) (n := c0) (by omega)
         refine hN come _ (awM ν0 (nxt μ p t k) was by1) (c0 + 1) (MOf_aw m1) (by rw [hnew.2.2.2]; omega) (by omega) (by omega) (fun j j1 j2 => ?_) (fun j hj => ?_) ?_
         · by_cases e : j = c0
           · subst e
             rw [hnew.1, hnew.2.1, hnew.2.2.1]
             exact ⟨⟨x3, by omega, hwas, by have := hb_01 was (nxt μ p t k); omega, by omega, by omega⟩, rfl⟩
           · have h1 := hold j (by omega)
             rw [h1.1, h1.2.1, h1.2.2]
             exact m5 j j1 (by omega)
         · have h1 := hold j (by omega)
           have h2 := m6 j hj
           exact ⟨h1.1.trans h2.1, h1.2.1.trans h2.2.1, h1.2.2.trans h2.2.2⟩
         · show come + (SV μ t o _ c0 + vI μ t o _ _ _) = _
           rw [SV_cg c0 hold, hnew.1, hnew.2.1, hnew.2.2.1]
           unfold vI
           omega)

set_option maxRecDepth 20000 in
theorem l_part (hG : GI μ) {t o p was od asi : Int} (ht : 0 ≤ t ∧ t < μ 32 0) (hp : 0 ≤ p ∧ p < μ 32 0) (ha : 0 ≤ gArm μ 32 p t ∧ gArm μ 32 p t < μ (32 + 10) p.toNat) (hwas : 0 ≤ was ∧ was < 512) (hbw : 1 ≤ bitsF was ∧ bitsF was ≤ 9) {β : Mem} {w0 : Nat} (hw0 : (w0 : Int) + 4 ≤ 4 * bitsF was) (htn : μ (80 + 2) p.toNat < μ (32 + 10) p.toNat) (has : 0 ≤ asi ∧ asi ≤ 1000000000) {Rv : Int} (hex : ∀ (come left oth k : Int) (y16 y17 y18 : AV) (ν : Mem) (c : Nat), (MOf μ ν) → (ν 256 48 = (c : Int)) → (w0 ≤ c) → ((c : Int) ≤ w0 + 5) → (∀ j, w0 ≤ j → j < c → itOK μ t (ν 302 j) (ν 303 j) (ν 304 j) j ∧ ν 303 j = was) → (sm3 β ν w0) → (come + SV μ t o ν c = Rv + SV μ t o β w0) → V X mX12_partWay 241 [vr 256, vi t, vi o, vi p, vi was, vl od, un, vi (gArm μ 32 p t), vl come, un, vl asi, un, vl left, un, vi oth, vi k, y16, y17, y18] [] ν) : ∀ (n : Nat) (k left oth come : Int) (y16 y17 y18 : AV) (ν : Mem) (c : Nat), (k + n = μ (32 + 10) p.toNat) → (0 ≤ k) → (0 ≤ left ∧ left ≤ 1000000000) → (oth = μ (32 + 10) p.toNat - k - (if k ≤ μ (80 + 2) p.toNat then 1 else 0)) → (MOf μ ν) → (ν 256 48 = (c : Int)) → (w0 ≤ c) → ((c : Int) ≤ w0 + k) → (∀ j, w0 ≤ j → j < c → itOK μ t (ν 302 j) (ν 303 j) (ν 304 j) j ∧ ν 303 j = was) → (sm3 β ν w0) → (shL μ (shT μ t o (10 - (bitsF was).toNat)) p was (bitsF was - 1) asi t n k left oth (come + SV μ t o ν c - SV μ t o β w0) = Rv) → V X mX12_partWay 132 [vr 256, vi t, vi o, vi p, vi was, vl od, un, vi (gArm μ 32 p t), vl come, un, vl asi, un, vl left, un, vi oth, vi k, y16, y17, y18] [] ν := by
  intro n
  induction n with
  | zero =>
    intro k left oth come y16 y17 y18 ν c h1 h0 hl ho g1 g2 g3 g4 g5 g6 hR
    obtain ⟨hL, hO, hV, hRM⟩ := id hG
    obtain ⟨hL0, hL1, hL2, hL3, hL4⟩ := id hL
    have s5 := hL3 p.toNat
    have e266 : ν 266 p.toNat = μ (32 + 10) p.toNat := by rw [g1.1 266 (by decide) (by decide)]; exact (hRM.2.2.2.1 p.toNat (by omega)).1
    have e270 : ν 270 p.toNat = μ (80 + 2) p.toNat := by rw [g1.1 270 (by decide) (by decide)]; exact (hRM.2.2.2.2.2.1 p.toNat (by omega)).1
    have ep : pT μ 80 p = μ (80 + 2) p.toNat := by unfold pT; rw [if_pos hp]
    have p4 := hO.1 p.toNat
    refine V_iload (pc := 132) dX12_partWay_132 rfl ?_
    refine V_aloadn (pc := 134) dX12_partWay_134 rfl ?_
    refine V_getr (pc := 135) dX12_partWay_135 fX12_28 zk_256 zr_256_9 ?_
    refine V_iloadn (pc := 138) dX12_partWay_138 rfl ?_
    refine V_iald (pc := 139) dX12_partWay_139 zk_266 (by omega) (by omega) (by decide) ?_
    rw [e266]
    refine V_icmp_ge (pc := 140) (tgt := 241) dX12_partWay_140 (by decide) (by omega) (by omega) (fun h140 => ?_) (fun h140 => ?_)
    · have e : come + SV μ t o ν c - SV μ t o β w0 = Rv := hR
      exact hex come left oth k y16 y17 y18 ν c g1 g2 g3 (by omega) g5 g6 (by omega)
    · exfalso; omega
  | succ n ih =>
    intro k left oth come y16 y17 y18 ν c h1 h0 hl ho g1 g2 g3 g4 g5 g6 hR
    obtain ⟨hL, hO, hV, hRM⟩ := id hG
    obtain ⟨hL0, hL1, hL2, hL3, hL4⟩ := id hL
    have s5 := hL3 p.toNat
    have e266 : ν 266 p.toNat = μ (32 + 10) p.toNat := by rw [g1.1 266 (by decide) (by decide)]; exact (hRM.2.2.2.1 p.toNat (by omega)).1
    have e270 : ν 270 p.toNat = μ (80 + 2) p.toNat := by rw [g1.1 270 (by decide) (by decide)]; exact (hRM.2.2.2.2.2.1 p.toNat (by omega)).1
    have ep : pT μ 80 p = μ (80 + 2) p.toNat := by unfold pT; rw [if_pos hp]
    have p4 := hO.1 p.toNat
    rw [shL_s, ep] at hR
    refine V_iload (pc := 132) dX12_partWay_132 rfl ?_
    refine V_aloadn (pc := 134) dX12_partWay_134 rfl ?_
    refine V_getr (pc := 135) dX12_partWay_135 fX12_28 zk_256 zr_256_9 ?_
    refine V_iloadn (pc := 138) dX12_partWay_138 rfl ?_
    refine V_iald (pc := 139) dX12_partWay_139 zk_266 (by omega) (by omega) (by decide) ?_
    rw [e266]
    refine V_icmp_ge (pc := 140) (tgt := 241) dX12_partWay_140 (by decide) (by omega) (by omega) (fun h140 => ?_) (fun h140 => ?_)
    · exfalso; omega
    · refine V_lload (pc := 143) dX12_partWay_143 rfl ?_
      refine V_lstore_16 (pc := 145) dX12_partWay_145 (by decide) rfl ?_
      refine V_iload (pc := 147) dX12_partWay_147 rfl ?_
      refine V_aloadn (pc := 149) dX12_partWay_149 rfl ?_
      refine V_getr (pc := 150) dX12_partWay_150 fX12_40 zk_256 zr_256_13 ?_
      refine V_iloadn (pc := 153) dX12_partWay_153 rfl ?_
      refine V_iald (pc := 154) dX12_partWay_154 zk_270 (by omega) (by omega) (by decide) ?_
      rw [e270]
      refine V_icmp_eq (pc := 155) (tgt := 176) dX12_partWay_155 (by decide) (by omega) (by omega) (fun h155 => ?_) (fun h155 => ?_)
      · first
          | (have hq : k = μ (80 + 2) p.toNat := by omega
             rw [if_pos hq] at hR
             refine l_part2 hG ht hp ha hwas hbw hw0 (k := k) (come := come) ⟨by omega, by omega⟩ has g1 g2 g3 g4 g5 g6 (fun come2 z18 ξ c2 q1 q2 q3 q4 q5 q6 q7 => ?_)
             exact ih (k + 1) left oth come2 _ _ _ ξ c2 (by omega) (by omega) hl (by rw [ho, if_pos (by omega), if_neg (by omega)]; omega) q1 q2 q3 q4 q5 q6 (by rw [← hR, show bitsF was - 1 + 1 = bitsF was by omega]; congr 1; omega))
          | (have hq : ¬ k = μ (80 + 2) p.toNat := by omega
             rw [if_neg hq, if_pos hpos] at hR
             refine l_part2 hG ht hp ha hwas hbw hw0 (k := k) (come := come) ⟨by omega, by omega⟩ (by omega) g1 g2 g3 g4 g5 g6 (fun come2 z18 ξ c2 q1 q2 q3 q4 q5 q6 q7 => ?_)
             exact ih (k + 1) (left - left.tdiv oth) (oth - 1) come2 _ _ _ ξ c2 (by omega) (by omega) (by omega) (by rw [ho]; exact oth_n hq) q1 q2 q3 q4 q5 q6 (by rw [← hR, show bitsF was - 1 + 1 = bitsF was by omega]; congr 1; omega))
      · have hoth : oth = μ (32 + 10) p.toNat - k - (if k ≤ μ (80 + 2) p.toNat then 1 else 0) := ho
        have hpos : 0 < oth := by split at hoth <;> omega
        have hdv := tdiv_rg (a := left) (b := oth) hl.1 hpos
        refine V_lload (pc := 158) dX12_partWay_158 rfl ?_
        refine V_iload (pc := 160) dX12_partWay_160 rfl ?_
        refine V_i2l (pc := 162) dX12_partWay_162 (by omega) ?_
        refine V_ldiv (pc := 163) dX12_partWay_163 (by omega) (by omega) (by omega) (by have := tdiv_rg (a := left) (b := oth) hl.1 (by omega); omega) ?_
        refine V_lstore_16 (pc := 164) dX12_partWay_164 (by decide) rfl ?_
        refine V_lload (pc := 166) dX12_partWay_166 rfl ?_
        refine V_lload (pc := 168) dX12_partWay_168 rfl ?_
        refine V_lsub (pc := 170) dX12_partWay_170 ?_
        refine V_lstore_12 (pc := 171) dX12_partWay_171 (by decide) rfl ?_
        refine V_iinc_14 (pc := 173) dX12_partWay_173 (by decide) rfl ?_
        first
          | (have hq : k = μ (80 + 2) p.toNat := by omega
             rw [if_pos hq] at hR
             refine l_part2 hG ht hp ha hwas hbw hw0 (k := k) (come := come) ⟨by omega, by omega⟩ has g1 g2 g3 g4 g5 g6 (fun come2 z18 ξ c2 q1 q2 q3 q4 q5 q6 q7 => ?_)
             exact ih (k + 1) left oth come2 _ _ _ ξ c2 (by omega) (by omega) hl (by rw [ho, if_pos (by omega), if_neg (by omega)]; omega) q1 q2 q3 q4 q5 q6 (by rw [← hR, show bitsF was - 1 + 1 = bitsF was by omega]; congr 1; omega))
          | (have hq : ¬ k = μ (80 + 2) p.toNat := by omega
             rw [if_neg hq, if_pos hpos] at hR
             refine l_part2 hG ht hp ha hwas hbw hw0 (k := k) (come := come) ⟨by omega, by omega⟩ (by omega) g1 g2 g3 g4 g5 g6 (fun come2 z18 ξ c2 q1 q2 q3 q4 q5 q6 q7 => ?_)
             exact ih (k + 1) (left - left.tdiv oth) (oth - 1) come2 _ _ _ ξ c2 (by omega) (by omega) (by omega) (by rw [ho]; exact oth_n hq) q1 q2 q3 q4 q5 q6 (by rw [← hR, show bitsF was - 1 + 1 = bitsF was by omega]; congr 1; omega))

end

/-- the stack holds ways that may still come -/
def STK (μ : Mem) (t : Int) (ν : Mem) (n : Nat) : Prop := ∀ j, j < n → itOK μ t (ν 302 j) (ν 303 j) (ν 304 j) j
theorem wt_pos (s : Int) : 0 < wt s := Nat.pow_pos (by decide)
theorem SMs_new {ν β : Mem} {w0 : Nat} {was : Int} (h : sm3 β ν w0) : ∀ (c : Nat), w0 ≤ c → (∀ j, w0 ≤ j → j < c → ν 303 j = was) → SMs ν c = SMs β w0 + (c - w0) * wt was := by
  intro c
  induction c with
  | zero => intro h1 _; obtain rfl : w0 = 0 := by omega
            simp [SMs]
  | succ c ih =>
    intro h1 h2
    by_cases e : w0 = c + 1
    · subst e
      rw [SMs_cg _ h]; simp
    · show SMs ν c + wt (ν 303 c) = _
      rw [ih (by omega) (fun j a b => h2 j a (by omega)), h2 c (by omega) (by omega), show c + 1 - w0 = (c - w0) + 1 by omega, Nat.add_mul]
      omega
/-- a way is parted -/
def pwQ (μ : Mem) (t o : Int) (ν : Mem) (w0 : Nat) (come : Int) (m : Mem) : Prop := ∃ c : Nat, MOf μ m ∧ m 256 48 = (c : Int) ∧ STK μ t m c ∧ come + SV μ t o m c = SV μ t o ν (w0 + 1) ∧ SMs m c < SMs ν (w0 + 1) ∧ c ≤ 64
theorem wt_step {s s2 : Int} (h : bitsF s2 = bitsF s + 1) (h0 : 0 ≤ bitsF s ∧ bitsF s ≤ 8) : wt s = 6 * wt s2 := by
  unfold wt
  rw [h, show 9 - (bitsF s).toNat = (9 - (bitsF s + 1).toNat) + 1 by omega, Nat.pow_succ]
  omega

set_option maxRecDepth 20000 in
theorem r_partWay {μ : Mem} (hG : GI μ) (hTn : ∀ p : Nat, (p : Int) < μ 32 0 → 0 < μ (32 + 10) p → μ (80 + 2) p < μ (32 + 10) p) {t o : Int} (ht : 0 ≤ t ∧ t < μ 32 0) (ho : 0 ≤ o ∧ o ≤ 100) {ν : Mem} (g1 : MOf μ ν) {w0 : Nat} (hw : ν 256 48 = ((w0 + 1 : Nat) : Int)) (hS : STK μ t ν (w0 + 1)) (h64 : w0 < 64) : SP mX12_partWay [vr 256, vi t, vi o] ν (fun w m => ∃ come, w = vl come ∧ pwQ μ t o ν w0 come m) := by
  refine SP_intro (ls := [vr 256, vi t, vi o, un, un, un, un, un, un, un, un, un, un, un, un, un, un, un, un]) (by decide +kernel) rfl rfl (Nat.le_of_ble_eq_true rfl) rfl (fun X hX => ?_)
  have hit := hS w0 (by omega)
  obtain ⟨i1, i2, i3, i4, i5, i6⟩ := id hit
  obtain ⟨hL, hO, hV, hRM⟩ := id hG
  obtain ⟨hL0, hL1, hL2, hL3, hL4⟩ := id hL
  have hbo := bits_or' i3 (by omega) i4
  have hbr := bitsF_rg' i3
  have hx32 := i1
  have hgm := gArm_rg hL (ν 302 w0) t
  have vA := hV.2.2.1 (ν 302 w0).toNat t.toNat (by omega) (by omega)
  have eA : gArm μ 32 (ν 302 w0) t = μ (32 + 13) ((ν 302 w0).toNat * 9 + t.toNat) := by unfold gArm; rw [if_pos ⟨i1, ht⟩]; congr 1; omega
  have s5 := hL3 (ν 302 w0).toNat
  have e269 : ν 269 (9 * ν 302 w0 + t).toNat = gArm μ 32 (ν 302 w0) t := by rw [g1.1 269 (by decide) (by decide), eA, show (9 * ν 302 w0 + t).toNat = (ν 302 w0).toNat * 9 + t.toNat by omega]; exact (hRM.2.2.2.2.1 (ν 302 w0).toNat t.toNat (by omega) (by omega)).1
  have e271 : ν 271 (ν 302 w0).toNat = μ (80 + 3) (ν 302 w0).toNat := by rw [g1.1 271 (by decide) (by decide)]; exact (hRM.2.2.2.2.2.1 (ν 302 w0).toNat (by omega)).2
  have e266 : ν 266 (ν 302 w0).toNat = μ (32 + 10) (ν 302 w0).toNat := by rw [g1.1 266 (by decide) (by decide)]; exact (hRM.2.2.2.1 (ν 302 w0).toNat (by omega)).1
  have e0 : gSd μ 32 (ν 302 w0) = μ (32 + 10) (ν 302 w0).toNat := by unfold gSd; rw [if_pos i1]
  have ew : (ν 256 48 - 1).toNat = w0 := by omega
  have hz := aT_z (μ := μ) (x := ν 302 w0) (t := t) i1 (by omega) (by omega)
  have hasr := asI_rg (μ := μ) (x := ν 302 w0) (sh := ν 304 w0) (o := o) (by omega) ho
  have hold : sm3 ν (mu ν 256 48 (ν 256 48 - 1)) (w0 + 1) := fun j hj => ⟨mu_c (by decide), mu_c (by decide), mu_c (by decide)⟩
  have hold0 : sm3 ν (mu ν 256 48 (ν 256 48 - 1)) w0 := fun j hj => hold j (by omega)
  have hvI : vI μ t o (ν 302 w0) (ν 303 w0) (ν 304 w0) = if aT μ 80 (ν 302 w0) t 0 = -1 then 0 else shL μ (shT μ t o (10 - (bitsF (iorr (ν 303 w0) (ishl 1 (ν 302 w0)))).toNat)) (ν 302 w0) (iorr (ν 303 w0) (ishl 1 (ν 302 w0))) (bitsF (ν 303 w0)) (asI μ (ν 302 w0) (ν 304 w0) o) t (gSd μ 32 (ν 302 w0)).toNat 0 (ν 304 w0 - asI μ (ν 302 w0) (ν 304 w0) o) (gSd μ 32 (ν 302 w0) - 1) 0 := by
    unfold vI
    rw [show 10 - (bitsF (ν 303 w0)).toNat = (10 - (bitsF (iorr (ν 303 w0) (ishl 1 (ν 302 w0)))).toNat) + 1 by omega]
    have hnI : ¬ In (ν 303 w0) (ν 302 w0) := fun q => q.2.2 i4
    by_cases c : aT μ 80 (ν 302 w0) t 0 = -1
    · rw [if_pos c]
      unfold shT
      rw [if_neg i2, if_pos (Or.inr (Or.inr (Or.inr c)))]
    · rw [if_neg c]
      rw [shT]
      rw [if_neg i2, if_neg (by rintro (q | q | q | q); omega; omega; exact hnI q; exact c q)]
  refine V_aloadn (pc := 0) dX12_partWay_0 rfl ?_
  refine V_dup_r (pc := 1) dX12_partWay_1 ?_
  refine V_geti (r := 0) (pc := 2) dX12_partWay_2 fX12_309 zk_256 ?_
  refine V_iconst (pc := 5) dX12_partWay_5 ?_
  refine V_isub (pc := 6) dX12_partWay_6 ?_
  refine V_puti (pc := 7) dX12_partWay_7 fX12_309 zk_256 ?_
  refine V_aloadn (pc := 10) dX12_partWay_10 rfl ?_
  refine V_getr (pc := 11) dX12_partWay_11 fX12_89 zk_256 zr_256_45 ?_
  refine V_aloadn (pc := 14) dX12_partWay_14 rfl ?_
  refine V_geti (r := 0) (pc := 15) dX12_partWay_15 fX12_309 zk_256 ?_
  rw [mu_h]
  refine V_iald (pc := 18) dX12_partWay_18 zk_302 (by omega) (by omega) (by decide) ?_
  rw [mu_c (by decide : (302 : Nat) ≠ 256)]
  rw [ew]
  refine V_istore_3 (pc := 19) dX12_partWay_19 (by decide) rfl ?_
  refine V_aloadn (pc := 20) dX12_partWay_20 rfl ?_
  refine V_getr (pc := 21) dX12_partWay_21 fX12_92 zk_256 zr_256_46 ?_
  refine V_aloadn (pc := 24) dX12_partWay_24 rfl ?_
  refine V_geti (r := 0) (pc := 25) dX12_partWay_25 fX12_309 zk_256 ?_
  rw [mu_h]
  refine V_iald (pc := 28) dX12_partWay_28 zk_303 (by omega) (by omega) (by decide) ?_
  rw [mu_c (by decide : (303 : Nat) ≠ 256)]
  rw [ew]
  refine V_iconst (pc := 29) dX12_partWay_29 ?_
  refine V_iloadn (pc := 30) dX12_partWay_30 rfl ?_
  refine V_ishl (pc := 31) dX12_partWay_31 ?_
  refine V_ior (pc := 32) dX12_partWay_32 ?_
  refine V_istore_4 (pc := 33) dX12_partWay_33 (by decide) rfl ?_
  refine V_aloadn (pc := 35) dX12_partWay_35 rfl ?_
  refine V_getr (pc := 36) dX12_partWay_36 fX12_95 zk_256 zr_256_47 ?_
  refine V_aloadn (pc := 39) dX12_partWay_39 rfl ?_
  refine V_geti (r := 0) (pc := 40) dX12_partWay_40 fX12_309 zk_256 ?_
  rw [mu_h]
  refine V_lald (pc := 43) dX12_partWay_43 zk_304 (by omega) (by omega) (by decide) ?_
  rw [mu_c (by decide : (304 : Nat) ≠ 256)]
  rw [ew]
  refine V_lstore_5 (pc := 44) dX12_partWay_44 (by decide) rfl ?_
  refine V_aloadn (pc := 46) dX12_partWay_46 rfl ?_
  refine V_getr (pc := 47) dX12_partWay_47 fX12_37 zk_256 zr_256_12 ?_
  refine V_bipush (pc := 50) dX12_partWay_50 (by decide +kernel) ?_
  refine V_iloadn (pc := 52) dX12_partWay_52 rfl ?_
  refine V_imul (pc := 53) dX12_partWay_53 ?_
  refine V_iloadn (pc := 54) dX12_partWay_54 rfl ?_
  refine V_iadd (pc := 55) dX12_partWay_55 ?_
  refine V_iald (pc := 56) dX12_partWay_56 zk_269 (by omega) (by omega) (by decide) ?_
  rw [mu_c (by decide : (269 : Nat) ≠ 256)]
  rw [e269]
  refine V_istore_7 (pc := 57) dX12_partWay_57 (by decide) rfl ?_
  refine V_iload (pc := 59) dX12_partWay_59 rfl ?_
  refine V_if_lt (pc := 61) (tgt := 78) dX12_partWay_61 (by decide) (by omega) (fun h61 => ?_) (fun h61 => ?_)
  · refine V_lconst0 (pc := 78) dX12_partWay_78 ?_
    refine V_lret hX dX12_partWay_79 rfl ?_
    refine ⟨0, rfl, w0, g1.mj, by rw [mu_h]; omega, fun j hj => ?_, ?_, ?_, by omega⟩
    · rw [mu_c (by decide), mu_c (by decide), mu_c (by decide)]; exact hS j (by omega)
    · show 0 + SV μ t o _ w0 = SV μ t o ν w0 + vI μ t o (ν 302 w0) (ν 303 w0) (ν 304 w0)
      rw [SV_cg w0 hold0, hvI, if_pos (hz.mpr (by omega))]; omega
    · show SMs _ w0 < SMs ν w0 + wt (ν 303 w0)
      rw [SMs_cg w0 hold0]
      have := wt_pos (ν 303 w0)
      omega
  · refine V_aloadn (pc := 64) dX12_partWay_64 rfl ?_
    refine V_getr (pc := 65) dX12_partWay_65 fX12_43 zk_256 zr_256_14 ?_
    refine V_iloadn (pc := 68) dX12_partWay_68 rfl ?_
    refine V_iald (pc := 69) dX12_partWay_69 zk_271 (by omega) (by omega) (by decide) ?_
    rw [mu_c (by decide : (271 : Nat) ≠ 256)]
    rw [e271]
    refine V_iload (pc := 70) dX12_partWay_70 rfl ?_
    refine V_cs2 (pc := 72) dX12_partWay_72 kX12_260 (by decide) (Nat.le_of_ble_eq_true rfl) (r_has) rfl ?_
    refine V_ifeq_b (pc := 75) (tgt := 80) dX12_partWay_75 (by decide) (fun h75 => ?_) (fun h75 => ?_)
    · refine V_lconst0 (pc := 80) dX12_partWay_80 ?_
      refine V_lstore_8 (pc := 81) dX12_partWay_81 (by decide) rfl ?_
      refine V_aloadn (pc := 83) dX12_partWay_83 rfl ?_
      refine V_getr (pc := 84) dX12_partWay_84 fX12_28 zk_256 zr_256_9 ?_
      refine V_iloadn (pc := 87) dX12_partWay_87 rfl ?_
      refine V_iald (pc := 88) dX12_partWay_88 zk_266 (by omega) (by omega) (by decide) ?_
      rw [mu_c (by decide : (266 : Nat) ≠ 256)]
      rw [e266]
      refine V_iconst (pc := 89) dX12_partWay_89 ?_
      refine V_icmp_ne (pc := 90) (tgt := 98) dX12_partWay_90 (by decide) (by omega) (by decide) (fun h90 => ?_) (fun h90 => ?_)
      · refine V_lload (pc := 98) dX12_partWay_98 rfl ?_
        refine V_bipush (pc := 100) dX12_partWay_100 (by decide +kernel) ?_
        refine V_iloadn (pc := 102) dX12_partWay_102 rfl ?_
        refine V_isub (pc := 103) dX12_partWay_103 ?_
        refine V_i2l (pc := 104) dX12_partWay_104 (by omega) ?_
        refine V_lmul (pc := 105) dX12_partWay_105 ?_
        refine V_ldc2 (pc := 106) (n := 100) dX12_partWay_106 nX12_312 (by decide) ?_
        have hm1 : 0 ≤ ν 304 w0 * (100 - o) := Int.mul_nonneg (by omega) (by omega)
        have hm2 : ν 304 w0 * (100 - o) ≤ ν 304 w0 * 100 := Int.mul_le_mul_of_nonneg_left (by omega) (by omega)
        refine V_ldiv (pc := 109) dX12_partWay_109 (by omega) (by omega) (by omega) (by have h1 : 0 ≤ ν 304 w0 * (100 - o) := Int.mul_nonneg (by omega) (by omega); have h2 : ν 304 w0 * (100 - o) ≤ ν 304 w0 * 100 := Int.mul_le_mul_of_nonneg_left (by omega) (by omega); have := tdiv_rg (a := ν 304 w0 * (100 - o)) (b := 100) h1 (by decide); omega) ?_
        first
          | (have easi : asI μ (ν 302 w0) (ν 304 w0) o = ν 304 w0 := by unfold asI; rw [if_pos (by omega)]
             rw [show ([vl (ν 304 w0)] : List AV) = [vl (asI μ (ν 302 w0) (ν 304 w0) o)] by rw [easi]])
          | (have easi : asI μ (ν 302 w0) (ν 304 w0) o = (ν 304 w0 * (100 - o)).tdiv 100 := by unfold asI; rw [if_neg (by omega)]
             rw [← easi])
        refine V_lstore_10 (pc := 110) dX12_partWay_110 (by decide) rfl ?_
        refine V_lload (pc := 112) dX12_partWay_112 rfl ?_
        refine V_lload (pc := 114) dX12_partWay_114 rfl ?_
        refine V_lsub (pc := 116) dX12_partWay_116 ?_
        refine V_lstore_12 (pc := 117) dX12_partWay_117 (by decide) rfl ?_
        refine V_aloadn (pc := 119) dX12_partWay_119 rfl ?_
        refine V_getr (pc := 120) dX12_partWay_120 fX12_28 zk_256 zr_256_9 ?_
        refine V_iloadn (pc := 123) dX12_partWay_123 rfl ?_
        refine V_iald (pc := 124) dX12_partWay_124 zk_266 (by omega) (by omega) (by decide) ?_
        rw [mu_c (by decide : (266 : Nat) ≠ 256)]
        rw [e266]
        refine V_iconst (pc := 125) dX12_partWay_125 ?_
        refine V_isub (pc := 126) dX12_partWay_126 ?_
        refine V_istore_14 (pc := 127) dX12_partWay_127 (by decide) rfl ?_
        refine V_iconst (pc := 129) dX12_partWay_129 ?_
        refine V_istore_15 (pc := 130) dX12_partWay_130 (by decide) rfl ?_
        have hna : ¬ aT μ 80 (ν 302 w0) t 0 = -1 := fun q => by have := hz.mp q; omega
        rw [if_neg hna] at hvI
        have hwt := wt_step hbo.1 ⟨hbr.1, hbo.2.2.2⟩
        refine l_part hG ht i1 (by omega) ⟨hbo.2.1, hbo.2.2.1⟩ (by omega) (β := mu ν 256 48 (ν 256 48 - 1)) (w0 := w0) (by omega) (hTn _ (by omega) (by omega)) (asi := asI μ (ν 302 w0) (ν 304 w0) o) (by omega) (Rv := vI μ t o (ν 302 w0) (ν 303 w0) (ν 304 w0)) (fun come left oth k y16 y17 y18 ξ c q1 q2 q3 q4 q5 q6 q7 => ?_) (μ (32 + 10) (ν 302 w0).toNat).toNat 0 (ν 304 w0 - asI μ (ν 302 w0) (ν 304 w0) o) (μ (32 + 10) (ν 302 w0).toNat - 1) 0 _ _ _ _ w0 (by omega) (by omega) (by omega) (by rw [if_pos (hO.1 _).1]; omega) g1.mj (by rw [mu_h]; omega) (Nat.le_refl _) (by omega) (fun j a b => by omega) (fun j hj => ⟨rfl, rfl, rfl⟩) ?_
        · refine V_lload (pc := 241) dX12_partWay_241 rfl ?_
          refine V_lret hX dX12_partWay_243 rfl ?_
          have q6' : sm3 ν ξ w0 := fun j hj => ⟨(q6 j hj).1.trans (hold j (by omega)).1, (q6 j hj).2.1.trans (hold j (by omega)).2.1, (q6 j hj).2.2.trans (hold j (by omega)).2.2⟩
          refine ⟨come, rfl, c, q1, q2, fun j hj => ?_, ?_, ?_, by omega⟩
          · by_cases e : j < w0
            · have h1 := q6' j e
              rw [h1.1, h1.2.1, h1.2.2]; exact hS j (by omega)
            · exact (q5 j (by omega) hj).1
          · show come + SV μ t o ξ c = SV μ t o ν w0 + vI μ t o (ν 302 w0) (ν 303 w0) (ν 304 w0)
            rw [q7, SV_cg w0 hold0]; omega
          · show SMs ξ c < SMs ν w0 + wt (ν 303 w0)
            rw [SMs_new q6' c q3 (fun j a b => (q5 j a b).2), hwt]
            have hp := wt_pos (iorr (ν 303 w0) (ishl 1 (ν 302 w0)))
            have h5 : (c - w0) * wt (iorr (ν 303 w0) (ishl 1 (ν 302 w0))) ≤ 5 * wt (iorr (ν 303 w0) (ishl 1 (ν 302 w0))) := Nat.mul_le_mul_right _ (by omega)
            omega
        · rw [hvI, e0, show bitsF (iorr (ν 303 w0) (ishl 1 (ν 302 w0))) - 1 = bitsF (ν 303 w0) by omega]
          congr 1
          omega
      · refine V_lload (pc := 93) dX12_partWay_93 rfl ?_
        refine V_goto (pc := 95) (tgt := 110) dX12_partWay_95 (by decide) ?_
        first
          | (have easi : asI μ (ν 302 w0) (ν 304 w0) o = ν 304 w0 := by unfold asI; rw [if_pos (by omega)]
             rw [show ([vl (ν 304 w0)] : List AV) = [vl (asI μ (ν 302 w0) (ν 304 w0) o)] by rw [easi]])
          | (have easi : asI μ (ν 302 w0) (ν 304 w0) o = (ν 304 w0 * (100 - o)).tdiv 100 := by unfold asI; rw [if_neg (by omega)]
             rw [← easi])
        refine V_lstore_10 (pc := 110) dX12_partWay_110 (by decide) rfl ?_
        refine V_lload (pc := 112) dX12_partWay_112 rfl ?_
        refine V_lload (pc := 114) dX12_partWay_114 rfl ?_
        refine V_lsub (pc := 116) dX12_partWay_116 ?_
        refine V_lstore_12 (pc := 117) dX12_partWay_117 (by decide) rfl ?_
        refine V_aloadn (pc := 119) dX12_partWay_119 rfl ?_
        refine V_getr (pc := 120) dX12_partWay_120 fX12_28 zk_256 zr_256_9 ?_
        refine V_iloadn (pc := 123) dX12_partWay_123 rfl ?_
        refine V_iald (pc := 124) dX12_partWay_124 zk_266 (by omega) (by omega) (by decide) ?_
        rw [mu_c (by decide : (266 : Nat) ≠ 256)]
        rw [e266]
        refine V_iconst (pc := 125) dX12_partWay_125 ?_
        refine V_isub (pc := 126) dX12_partWay_126 ?_
        refine V_istore_14 (pc := 127) dX12_partWay_127 (by decide) rfl ?_
        refine V_iconst (pc := 129) dX12_partWay_129 ?_
        refine V_istore_15 (pc := 130) dX12_partWay_130 (by decide) rfl ?_
        have hna : ¬ aT μ 80 (ν 302 w0) t 0 = -1 := fun q => by have := hz.mp q; omega
        rw [if_neg hna] at hvI
        have hwt := wt_step hbo.1 ⟨hbr.1, hbo.2.2.2⟩
        refine l_part hG ht i1 (by omega) ⟨hbo.2.1, hbo.2.2.1⟩ (by omega) (β := mu ν 256 48 (ν 256 48 - 1)) (w0 := w0) (by omega) (hTn _ (by omega) (by omega)) (asi := asI μ (ν 302 w0) (ν 304 w0) o) (by omega) (Rv := vI μ t o (ν 302 w0) (ν 303 w0) (ν 304 w0)) (fun come left oth k y16 y17 y18 ξ c q1 q2 q3 q4 q5 q6 q7 => ?_) (μ (32 + 10) (ν 302 w0).toNat).toNat 0 (ν 304 w0 - asI μ (ν 302 w0) (ν 304 w0) o) (μ (32 + 10) (ν 302 w0).toNat - 1) 0 _ _ _ _ w0 (by omega) (by omega) (by omega) (by rw [if_pos (hO.1 _).1]; omega) g1.mj (by rw [mu_h]; omega) (Nat.le_refl _) (by omega) (fun j a b => by omega) (fun j hj => ⟨rfl, rfl, rfl⟩) ?_
        · refine V_lload (pc := 241) dX12_partWay_241 rfl ?_
          refine V_lret hX dX12_partWay_243 rfl ?_
          have q6' : sm3 ν ξ w0 := fun j hj => ⟨(q6 j hj).1.trans (hold j (by omega)).1, (q6 j hj).2.1.trans (hold j (by omega)).2.1, (q6 j hj).2.2.trans (hold j (by omega)).2.2⟩
          refine ⟨come, rfl, c, q1, q2, fun j hj => ?_, ?_, ?_, by omega⟩
          · by_cases e : j < w0
            · have h1 := q6' j e
              rw [h1.1, h1.2.1, h1.2.2]; exact hS j (by omega)
            · exact (q5 j (by omega) hj).1
          · show come + SV μ t o ξ c = SV μ t o ν w0 + vI μ t o (ν 302 w0) (ν 303 w0) (ν 304 w0)
            rw [q7, SV_cg w0 hold0]; omega
          · show SMs ξ c < SMs ν w0 + wt (ν 303 w0)
            rw [SMs_new q6' c q3 (fun j a b => (q5 j a b).2), hwt]
            have hp := wt_pos (iorr (ν 303 w0) (ishl 1 (ν 302 w0)))
            have h5 : (c - w0) * wt (iorr (ν 303 w0) (ishl 1 (ν 302 w0))) ≤ 5 * wt (iorr (ν 303 w0) (ishl 1 (ν 302 w0))) := Nat.mul_le_mul_right _ (by omega)
            omega
        · rw [hvI, e0, show bitsF (iorr (ν 303 w0) (ishl 1 (ν 302 w0))) - 1 = bitsF (ν 303 w0) by omega]
          congr 1
          omega
    · refine V_lconst0 (pc := 78) dX12_partWay_78 ?_
      refine V_lret hX dX12_partWay_79 rfl ?_
      refine ⟨0, rfl, w0, g1.mj, by rw [mu_h]; omega, fun j hj => ?_, ?_, ?_, by omega⟩
      · rw [mu_c (by decide), mu_c (by decide), mu_c (by decide)]; exact hS j (by omega)
      · show 0 + SV μ t o _ w0 = SV μ t o ν w0 + vI μ t o (ν 302 w0) (ν 303 w0) (ν 304 w0)
        rw [SV_cg w0 hold0, hvI, if_pos (hz.mpr (by omega))]; omega
      · show SMs _ w0 < SMs ν w0 + wt (ν 303 w0)
        rw [SMs_cg w0 hold0]
        have := wt_pos (ν 303 w0)
        omega

def mdV (m : Mem) (n : Int) : Int := ((dnx (m 256 16)).tdiv 65536).tmod n
def mdM (m : Mem) : Mem := mu m 256 16 (dnx (m 256 16))
def mdT (m : Mem) (p : Int) : Mem := mu (mdM (mdM m)) 270 p.toNat ((m 270 p.toNat + mdV (mdM m) (m 266 p.toNat)) % m 266 p.toNat)
def mdN (o : Int) : Nat → Int → Mem → Mem
  | 0, _, m => m
  | n + 1, p, m => if mdV m 100 < o ∧ 0 < m 266 p.toNat then mdN o n (p + 1) (mdT m p) else mdN o n (p + 1) (mdM m)
theorem mdN_s {o : Int} {n : Nat} {p : Int} {m : Mem} : mdN o (n + 1) p m = if mdV m 100 < o ∧ 0 < m 266 p.toNat then mdN o n (p + 1) (mdT m p) else mdN o n (p + 1) (mdM m) := rfl
def mdS (o : Int) : Nat → Mem → Mem
  | 0, m => m
  | n + 1, m => mdS o n (mdN o (m 256 0).toNat 0 m)
theorem mdS_s {o : Int} {n : Nat} {m : Mem} : mdS o (n + 1) m = mdS o n (mdN o (m 256 0).toNat 0 m) := rfl
theorem mdV_rg (m : Mem) {n : Int} (hn : 0 < n) : 0 ≤ mdV m n ∧ mdV m n < n := by
  have h1 := dnx_rg (m 256 16)
  have h2 := tdiv_rg h1.1 (show (0 : Int) < 65536 by decide)
  unfold mdV
  rw [Int.tmod_eq_emod_of_nonneg h2.1]
  exact ⟨Int.emod_nonneg _ (by omega), Int.emod_lt_of_pos _ hn⟩
/-- what the reference's drift keeps: all but its turned posts and its seed -/
def MK (μ m : Mem) : Prop := (∀ k, k ≠ 256 → k ≠ 270 → m k = μ k) ∧ (∀ j, j ≠ 16 → m 256 j = μ 256 j)
theorem MK.rf (μ : Mem) : MK μ μ := ⟨fun _ _ _ => rfl, fun _ _ => rfl⟩
theorem mdM_mk {μ m : Mem} (h : MK μ m) : MK μ (mdM m) := ⟨fun k a b => (mu_ne a).trans (h.1 k a b), fun j hj => (mu_j hj).trans (h.2 j hj)⟩
theorem mdT_mk {μ m : Mem} {p : Int} (h : MK μ m) : MK μ (mdT m p) := ⟨fun k a b => (mu_ne b).trans ((mdM_mk (mdM_mk h)).1 k a b), fun j hj => (mu_c (by decide)).trans ((mdM_mk (mdM_mk h)).2 j hj)⟩
/-- turned posts and seed in their bounds -/
def TS (m : Mem) : Prop := (∀ p : Nat, 0 ≤ m 270 p ∧ m 270 p ≤ 4) ∧ (0 ≤ m 256 16 ∧ m 256 16 < 2147483648)
theorem mdM_ts {m : Mem} (h : TS m) : TS (mdM m) := ⟨fun p => by unfold mdM; rw [mu_c (by decide)]; exact h.1 p, by unfold mdM; rw [mu_h]; exact dnx_rg _⟩
theorem mdT_ts {m : Mem} {p : Int} (h : TS m) (hs : 0 < m 266 p.toNat ∧ m 266 p.toNat ≤ 5) : TS (mdT m p) := by
  have h2 := mdM_ts (mdM_ts h)
  refine ⟨fun q => ?_, by unfold mdT; rw [mu_c (by decide)]; exact h2.2⟩
  unfold mdT
  have e1 := Int.emod_nonneg (m 270 p.toNat + mdV (mdM m) (m 266 p.toNat)) (show m 266 p.toNat ≠ 0 by omega)
  have e2 := Int.emod_lt_of_pos (m 270 p.toNat + mdV (mdM m) (m 266 p.toNat)) hs.1
  by_cases hq : q = p.toNat
  · subst hq; rw [mu_h]; omega
  · rw [mu_j hq]; exact h2.1 q

set_option maxRecDepth 20000 in
theorem r_draw {μ : Mem} (h : 0 ≤ μ 256 16 ∧ μ 256 16 < 2147483648) {n : Int} (hn : 0 < n ∧ n ≤ 100) : SP mX12_draw [vr 256, vi n] μ (fun w m => w = vi (mdV μ n) ∧ m = mdM μ) := by
  refine SP_intro (ls := [vr 256, vi n]) (by decide +kernel) rfl rfl (Nat.le_of_ble_eq_true rfl) rfl (fun X hX => ?_)
  have g := dnx_rg (μ 256 16)
  have g2 := tdiv_rg (a := dnx (μ 256 16)) (b := 65536) g.1 (by decide)
  have g3 := tdiv_rg (a := (dnx (μ 256 16)).tdiv 65536) (b := n) g2.1 hn.1
  have g4 := tdiv_rg (a := μ 256 16 * 1103515245 + 12345) (b := 2147483648) (by omega) (by decide)
  refine V_aloadn (pc := 0) dX12_draw_0 rfl ?_
  refine V_aloadn (pc := 1) dX12_draw_1 rfl ?_
  refine V_geti (r := 0) (pc := 2) dX12_draw_2 fX12_332 zk_256 ?_
  refine V_i2l (pc := 5) dX12_draw_5 (by omega) ?_
  refine V_ldc2 (pc := 6) (n := 1103515245) dX12_draw_6 nX12_335 (by decide) ?_
  refine V_lmul (pc := 9) dX12_draw_9 ?_
  refine V_ldc2 (pc := 10) (n := 12345) dX12_draw_10 nX12_337 (by decide) ?_
  refine V_ladd (pc := 13) dX12_draw_13 ?_
  refine V_ldc2 (pc := 14) (n := 2147483648) dX12_draw_14 nX12_339 (by decide) ?_
  refine V_lrem (pc := 17) dX12_draw_17 (by omega) (by omega) (by omega) (by omega) ?_
  refine V_l2i (pc := 18) dX12_draw_18 ?_
  rw [Int.tmod_eq_emod_of_nonneg (by omega), show (μ 256 16 * 1103515245 + 12345) % 2147483648 = dnx (μ 256 16) from rfl, l2i_id (by omega)]
  refine V_puti (pc := 19) dX12_draw_19 fX12_332 zk_256 ?_
  refine V_aloadn (pc := 22) dX12_draw_22 rfl ?_
  refine V_geti (r := 0) (pc := 23) dX12_draw_23 fX12_332 zk_256 ?_
  rw [mu_h]
  refine V_ldcw (pc := 26) (n := 65536) dX12_draw_26 nX12_341 (by decide) ?_
  refine V_idiv (pc := 29) dX12_draw_29 (by omega) (by decide) (by decide) (by omega) ?_
  refine V_iloadn (pc := 30) dX12_draw_30 rfl ?_
  refine V_irem (pc := 31) dX12_draw_31 (by omega) (by omega) (by omega) (by omega) ?_
  refine V_iret hX dX12_draw_32 rfl ?_
  exact ⟨rfl, rfl⟩

set_option maxRecDepth 20000 in
theorem l_mdriftP {μ : Mem} (hB : MB μ) {N o k : Int} (ho : 0 ≤ o ∧ o ≤ 100) {R : Mem} {X : ZX} (hex : ∀ p y5, V X mX12_drift 110 [vr 256, vi N, vi o, vi k, vi p, y5] [] R) : ∀ (n : Nat) (p : Int) (y5 : AV) (ν : Mem), (p + n = μ 256 0) → (0 ≤ p) → (MK μ ν) → (TS ν) → (mdN o n p ν = R) → V X mX12_drift 37 [vr 256, vi N, vi o, vi k, vi p, y5] [] ν := by
  intro n
  induction n with
  | zero =>
    intro p y5 ν h1 h2 hw hts hR0
    obtain ⟨b0, b1, b2, b3, b4, b5, b6, b7⟩ := id hB
    have e0 : ν 256 0 = μ 256 0 := hw.2 0 (by decide)
    have e266 : ∀ q, ν 266 q = μ 266 q := fun q => by rw [hw.1 266 (by decide) (by decide)]
    have c1 := b1 p.toNat
    have g2 := mdV_rg ν (n := 100) (by decide)
    have c2 := hts.1 p.toNat
    refine V_iload (pc := 37) dX12_drift_37 rfl ?_
    refine V_aloadn (pc := 39) dX12_drift_39 rfl ?_
    refine V_geti (r := 0) (pc := 40) dX12_drift_40 fX12_118 zk_256 ?_
    rw [e0]
    refine V_icmp_ge (pc := 43) (tgt := 110) dX12_drift_43 (by decide) (by omega) (by omega) (fun h43 => ?_) (fun h43 => ?_)
    · obtain rfl : ν = R := hR0
      exact hex _ _
    · exfalso; omega
  | succ n ih =>
    intro p y5 ν h1 h2 hw hts hR0
    obtain ⟨b0, b1, b2, b3, b4, b5, b6, b7⟩ := id hB
    have e0 : ν 256 0 = μ 256 0 := hw.2 0 (by decide)
    have e266 : ∀ q, ν 266 q = μ 266 q := fun q => by rw [hw.1 266 (by decide) (by decide)]
    have c1 := b1 p.toNat
    have g2 := mdV_rg ν (n := 100) (by decide)
    have c2 := hts.1 p.toNat
    refine V_iload (pc := 37) dX12_drift_37 rfl ?_
    refine V_aloadn (pc := 39) dX12_drift_39 rfl ?_
    refine V_geti (r := 0) (pc := 40) dX12_drift_40 fX12_118 zk_256 ?_
    rw [e0]
    refine V_icmp_ge (pc := 43) (tgt := 110) dX12_drift_43 (by decide) (by omega) (by omega) (fun h43 => ?_) (fun h43 => ?_)
    · exfalso; omega
    · refine V_aloadn (pc := 46) dX12_drift_46 rfl ?_
      refine V_bipush (pc := 47) dX12_drift_47 (by decide +kernel) ?_
      refine V_cv1 (pc := 49) dX12_drift_49 kX12_342 zk_256 (by decide) (Nat.le_of_ble_eq_true rfl) (r_draw hts.2 (by decide)) rfl ?_
      refine V_iloadn (pc := 52) dX12_drift_52 rfl ?_
      refine V_icmp_ge (pc := 53) (tgt := 104) dX12_drift_53 (by decide) (by omega) (by omega) (fun h53 => ?_) (fun h53 => ?_)
      · refine V_iinc_4 (pc := 104) dX12_drift_104 (by decide) rfl ?_
        refine V_goto (pc := 107) (tgt := 37) dX12_drift_107 (by decide) ?_
        first
          | exact ih _ _ _ (by omega) (by omega) (mdM_mk hw) (mdM_ts hts) (by rw [← hR0, mdN_s, if_neg (by rw [e266]; omega)])
          | (have e5 : mu (mdM (mdM ν)) 270 p.toNat ((ν 270 p.toNat + mdV (mdM ν) (μ 266 p.toNat)) % μ 266 p.toNat) = mdT ν p := by unfold mdT; rw [e266]
             rw [e5]
             exact ih _ _ _ (by omega) (by omega) (mdT_mk hw) (mdT_ts hts (by rw [e266]; omega)) (by rw [← hR0, mdN_s, if_pos (by rw [e266]; omega)]))
      · have e1 : mdM ν 266 p.toNat = μ 266 p.toNat := by unfold mdM; rw [mu_c (by decide), e266]
        refine V_aloadn (pc := 56) dX12_drift_56 rfl ?_
        refine V_getr (pc := 57) dX12_drift_57 fX12_28 zk_256 zr_256_9 ?_
        refine V_iload (pc := 60) dX12_drift_60 rfl ?_
        refine V_iald (pc := 62) dX12_drift_62 zk_266 (by omega) (by omega) (by decide) ?_
        rw [e1]
        refine V_if_le (pc := 63) (tgt := 104) dX12_drift_63 (by decide) (by omega) (fun h63 => ?_) (fun h63 => ?_)
        · refine V_iinc_4 (pc := 104) dX12_drift_104 (by decide) rfl ?_
          refine V_goto (pc := 107) (tgt := 37) dX12_drift_107 (by decide) ?_
          first
            | exact ih _ _ _ (by omega) (by omega) (mdM_mk hw) (mdM_ts hts) (by rw [← hR0, mdN_s, if_neg (by rw [e266]; omega)])
            | (have e5 : mu (mdM (mdM ν)) 270 p.toNat ((ν 270 p.toNat + mdV (mdM ν) (μ 266 p.toNat)) % μ 266 p.toNat) = mdT ν p := by unfold mdT; rw [e266]
               rw [e5]
               exact ih _ _ _ (by omega) (by omega) (mdT_mk hw) (mdT_ts hts (by rw [e266]; omega)) (by rw [← hR0, mdN_s, if_pos (by rw [e266]; omega)]))
        · have g3 := mdV_rg (mdM ν) (n := μ 266 p.toNat) (by omega)
          refine V_aloadn (pc := 66) dX12_drift_66 rfl ?_
          refine V_aloadn (pc := 67) dX12_drift_67 rfl ?_
          refine V_getr (pc := 68) dX12_drift_68 fX12_28 zk_256 zr_256_9 ?_
          refine V_iload (pc := 71) dX12_drift_71 rfl ?_
          refine V_iald (pc := 73) dX12_drift_73 zk_266 (by omega) (by omega) (by decide) ?_
          rw [e1]
          refine V_cv1 (pc := 74) dX12_drift_74 kX12_342 zk_256 (by decide) (Nat.le_of_ble_eq_true rfl) (r_draw (mdM_ts hts).2 (by omega)) rfl ?_
          refine V_istore_5 (pc := 77) dX12_drift_77 (by decide) rfl ?_
          have t0 := tdiv_rg (a := ν 270 p.toNat + mdV (mdM ν) (μ 266 p.toNat)) (b := μ 266 p.toNat) (by omega) (by omega)
          have e2 : mdM (mdM ν) 270 p.toNat = ν 270 p.toNat := by unfold mdM; rw [mu_c (by decide), mu_c (by decide)]
          have e3 : mdM (mdM ν) 266 p.toNat = μ 266 p.toNat := by unfold mdM; rw [mu_c (by decide), mu_c (by decide), e266]
          refine V_aloadn (pc := 79) dX12_drift_79 rfl ?_
          refine V_getr (pc := 80) dX12_drift_80 fX12_40 zk_256 zr_256_13 ?_
          refine V_iload (pc := 83) dX12_drift_83 rfl ?_
          refine V_aloadn (pc := 85) dX12_drift_85 rfl ?_
          refine V_getr (pc := 86) dX12_drift_86 fX12_40 zk_256 zr_256_13 ?_
          refine V_iload (pc := 89) dX12_drift_89 rfl ?_
          refine V_iald (pc := 91) dX12_drift_91 zk_270 (by omega) (by omega) (by decide) ?_
          rw [e2]
          refine V_iload (pc := 92) dX12_drift_92 rfl ?_
          refine V_iadd (pc := 94) dX12_drift_94 ?_
          refine V_aloadn (pc := 95) dX12_drift_95 rfl ?_
          refine V_getr (pc := 96) dX12_drift_96 fX12_28 zk_256 zr_256_9 ?_
          refine V_iload (pc := 99) dX12_drift_99 rfl ?_
          refine V_iald (pc := 101) dX12_drift_101 zk_266 (by omega) (by omega) (by decide) ?_
          rw [e3]
          refine V_irem (pc := 102) dX12_drift_102 (by omega) (by omega) (by omega) (by omega) ?_
          rw [Int.tmod_eq_emod_of_nonneg (by omega)]
          refine V_iast (pc := 103) dX12_drift_103 zk_270 (by omega) (by omega) (by decide) ?_
          refine V_iinc_4 (pc := 104) dX12_drift_104 (by decide) rfl ?_
          refine V_goto (pc := 107) (tgt := 37) dX12_drift_107 (by decide) ?_
          first
            | exact ih _ _ _ (by omega) (by omega) (mdM_mk hw) (mdM_ts hts) (by rw [← hR0, mdN_s, if_neg (by rw [e266]; omega)])
            | (have e5 : mu (mdM (mdM ν)) 270 p.toNat ((ν 270 p.toNat + mdV (mdM ν) (μ 266 p.toNat)) % μ 266 p.toNat) = mdT ν p := by unfold mdT; rw [e266]
               rw [e5]
               exact ih _ _ _ (by omega) (by omega) (mdT_mk hw) (mdT_ts hts (by rw [e266]; omega)) (by rw [← hR0, mdN_s, if_pos (by rw [e266]; omega)]))

theorem mdN_ok {μ : Mem} (hB : MB μ) {o : Int} : ∀ (n : Nat) (p : Int) (m : Mem), MK μ m → TS m → MK μ (mdN o n p m) ∧ TS (mdN o n p m) := by
  intro n
  induction n with
  | zero => intro p m h1 h2; exact ⟨h1, h2⟩
  | succ n ih =>
    intro p m h1 h2
    rw [mdN_s]
    have e : m 266 p.toNat = μ 266 p.toNat := by rw [h1.1 266 (by decide) (by decide)]
    have c1 := hB.2.1 p.toNat
    split
    · exact ih _ _ (mdT_mk h1) (mdT_ts h2 (by omega))
    · exact ih _ _ (mdM_mk h1) (mdM_ts h2)

set_option maxRecDepth 20000 in
theorem l_mdrift {μ : Mem} (hB : MB μ) {N o Z : Int} (hN : inR N) (ho : 0 ≤ o ∧ o ≤ 100) {R : Mem} {X : ZX} (hX : isM X (fun w m => w = vi Z ∧ MWf R m)) (hcost : SP mX12_costNow [vr 256] R (fun w m => w = vi Z ∧ MWf R m)) : ∀ (n : Nat) (k : Int) (y4 y5 : AV) (ν : Mem), (k + n = N) → (0 ≤ k) → (MK μ ν) → (TS ν) → (mdS o n ν = R) → V X mX12_drift 29 [vr 256, vi N, vi o, vi k, y4, y5] [] ν := by
  intro n
  induction n with
  | zero =>
    intro k y4 y5 ν h1 h2 hw hts hR0
    obtain rfl : ν = R := hR0
    refine V_iloadn (pc := 29) dX12_drift_29 rfl ?_
    refine V_iloadn (pc := 30) dX12_drift_30 rfl ?_
    refine V_icmp_ge (pc := 31) (tgt := 116) dX12_drift_31 (by decide) (by omega) (by omega) (fun h31 => ?_) (fun h31 => ?_)
    · refine V_aloadn (pc := 116) dX12_drift_116 rfl ?_
      refine V_cq0 (pc := 117) dX12_drift_117 kX12_240 zk_256 (by decide) (Nat.le_of_ble_eq_true rfl) (hcost) ?_
      intro w m hm
      obtain ⟨rfl, hm⟩ := hm
      show V X _ _ _ (vi Z :: _) m
      refine V_iret hX dX12_drift_120 rfl ?_
      exact ⟨rfl, hm⟩
    · exfalso; omega
  | succ n ih =>
    intro k y4 y5 ν h1 h2 hw hts hR0
    obtain ⟨b0, b1, b2, b3, b4, b5, b6, b7⟩ := id hB
    have e0 : ν 256 0 = μ 256 0 := hw.2 0 (by decide)
    refine V_iloadn (pc := 29) dX12_drift_29 rfl ?_
    refine V_iloadn (pc := 30) dX12_drift_30 rfl ?_
    refine V_icmp_ge (pc := 31) (tgt := 116) dX12_drift_31 (by decide) (by omega) (by omega) (fun h31 => ?_) (fun h31 => ?_)
    · exfalso; omega
    · refine V_iconst (pc := 34) dX12_drift_34 ?_
      refine V_istore_4 (pc := 35) dX12_drift_35 (by decide) rfl ?_
      refine l_mdriftP hB ho (fun p y5 => ?_) (μ 256 0).toNat 0 _ ν (by omega) (by omega) hw hts rfl
      refine V_iinc_3 (pc := 110) dX12_drift_110 (by decide) rfl ?_
      refine V_goto (pc := 113) (tgt := 29) dX12_drift_113 (by decide) ?_
      have ok := mdN_ok hB (o := o) (μ 256 0).toNat 0 ν hw hts
      exact ih _ _ _ _ (by omega) (by omega) ok.1 ok.2 (by rw [← hR0, mdS_s, e0])

def mDrift (μ : Mem) (n o Z : Int) : Int × Mem := if (1 ≤ n ∧ n ≤ 99) ∧ 0 ≤ o ∧ o ≤ 100 then (Z, mdS o n.toNat μ) else (-1000000002, μ)

set_option maxRecDepth 20000 in
theorem r_drift {μ : Mem} (hB : MB μ) {n o Z : Int} (hn : inR n) (ho : inR o) (hcost : (1 ≤ n ∧ n ≤ 99) → (0 ≤ o ∧ o ≤ 100) → SP mX12_costNow [vr 256] (mdS o n.toNat μ) (fun w m => w = vi Z ∧ MWf (mdS o n.toNat μ) m)) : SP mX12_drift [vr 256, vi n, vi o] μ (fun w m => w = vi (mDrift μ n o Z).1 ∧ MWf (mDrift μ n o Z).2 m) := by
  refine SP_intro (ls := [vr 256, vi n, vi o, un, un, un]) (by decide +kernel) rfl rfl (Nat.le_of_ble_eq_true rfl) rfl (fun X hX => ?_)
  obtain ⟨b0, b1, b2, b3, b4, b5, b6, b7⟩ := id hB
  refine V_iloadn (pc := 0) dX12_drift_0 rfl ?_
  refine V_i2l (pc := 1) dX12_drift_1 (by omega) ?_
  refine V_lconst1 (pc := 2) dX12_drift_2 ?_
  refine V_ldc2 (pc := 3) (n := 99) dX12_drift_3 nX12_266 (by decide) ?_
  refine V_cs3 (pc := 6) dX12_drift_6 kX12_121 (by decide) (Nat.le_of_ble_eq_true rfl) (r_in (by omega) (by decide) (by decide)) rfl ?_
  refine V_ifeq_b (pc := 9) (tgt := 24) dX12_drift_9 (by decide) (fun h9 => ?_) (fun h9 => ?_)
  · refine V_ldc (pc := 24) (n := -1000000002) dX12_drift_24 nX12_131 (by decide) ?_
    refine V_iret hX dX12_drift_26 rfl ?_
    unfold mDrift
    rw [if_neg (by omega)]
    exact ⟨rfl, MWf.rf μ⟩
  · refine V_iloadn (pc := 12) dX12_drift_12 rfl ?_
    refine V_i2l (pc := 13) dX12_drift_13 (by omega) ?_
    refine V_lconst0 (pc := 14) dX12_drift_14 ?_
    refine V_ldc2 (pc := 15) (n := 100) dX12_drift_15 nX12_312 (by decide) ?_
    refine V_cs3 (pc := 18) dX12_drift_18 kX12_121 (by decide) (Nat.le_of_ble_eq_true rfl) (r_in (by omega) (by decide) (by decide)) rfl ?_
    refine V_ifne_b (pc := 21) (tgt := 27) dX12_drift_21 (by decide) (fun h21 => ?_) (fun h21 => ?_)
    · refine V_iconst (pc := 27) dX12_drift_27 ?_
      refine V_istore_3 (pc := 28) dX12_drift_28 (by decide) rfl ?_
      have e : mDrift μ n o Z = (Z, mdS o n.toNat μ) := by unfold mDrift; rw [if_pos (by omega)]
      rw [e] at hX
      exact l_mdrift hB hn (by omega) hX (hcost (by omega) (by omega)) n.toNat 0 _ _ μ (by omega) (by omega) (MK.rf μ) ⟨b2, b7⟩ rfl
    · refine V_ldc (pc := 24) (n := -1000000002) dX12_drift_24 nX12_131 (by decide) ?_
      refine V_iret hX dX12_drift_26 rfl ?_
      unfold mDrift
      rw [if_neg (by omega)]
      exact ⟨rfl, MWf.rf μ⟩


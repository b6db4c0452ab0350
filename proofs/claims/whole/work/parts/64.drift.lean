def DS (P : Int) (m k : Mem) : Prop := m 176 0 = k 256 16 ∧ m 32 0 = P ∧ ∀ q : Nat, (q : Int) < P → m (80 + 2) q = k 270 q ∧ gSd m 32 q = k 266 q ∧ (0 < gSd m 32 q → m (80 + 2) q < gSd m 32 q)
theorem drV_eq {P : Int} {m k : Mem} (h : DS P m k) (n : Int) : drV m n = mdV k n := by unfold drV mdV; rw [h.1]
theorem DS_M {P : Int} {m k : Mem} (h : DS P m k) : DS P (drM m) (mdM k) := by
  obtain ⟨a, b, c⟩ := h
  refine ⟨?_, ?_, fun q hq => ?_⟩
  · unfold drM mdM; rw [mu_h, mu_h, a]
  · rw [drM32]; exact b
  · rw [gSd_drM]
    unfold drM mdM
    rw [mu_c (by decide), mu_c (by decide), mu_c (by decide)]
    exact c q hq
theorem DS_T {P : Int} {m k : Mem} (h : DS P m k) {p : Int} (hp : 0 ≤ p ∧ p < P) (hs : 0 < gSd m 32 p) : DS P (drT m p) (mdT k p) := by
  have h2 := DS_M (DS_M h)
  have hv := drV_eq (DS_M h) (gSd m 32 p)
  obtain ⟨a, b, c⟩ := h2
  have h3 := h.2.2 p.toNat (by omega)
  rw [show ((p.toNat : Nat) : Int) = p by omega] at h3
  have eG : gSd (drT m p) 32 = gSd m 32 := by
    funext x
    have e1 : gSd (drT m p) 32 x = gSd (drM (drM m)) 32 x := gSd_cg (mu_ne (by decide)) (mu_ne (by decide)) x
    rw [e1, gSd_drM, gSd_drM]
  have hval : (m (80 + 2) p.toNat + drV (drM m) (gSd m 32 p)) % gSd m 32 p = (k 270 p.toNat + mdV (mdM k) (k 266 p.toNat)) % k 266 p.toNat := by rw [hv, h3.1, ← h3.2.1]
  refine ⟨?_, ?_, fun q hq => ?_⟩
  · unfold drT mdT; rw [mu_c (by decide), mu_c (by decide)]; exact a
  · unfold drT; rw [mu_c (by decide)]; exact b
  · have c1 := c q hq
    rw [gSd_drM, gSd_drM] at c1
    rw [eG]
    have e266 : mdT k p 266 q = mdM (mdM k) 266 q := by unfold mdT; rw [mu_c (by decide)]
    rw [e266]
    by_cases e : q = p.toNat
    · subst e
      have x1 : drT m p (80 + 2) p.toNat = (m (80 + 2) p.toNat + drV (drM m) (gSd m 32 p)) % gSd m 32 p := by unfold drT; rw [mu_h]
      have x2 : mdT k p 270 p.toNat = (k 270 p.toNat + mdV (mdM k) (k 266 p.toNat)) % k 266 p.toNat := by unfold mdT; rw [mu_h]
      rw [x1, x2]
      refine ⟨hval, c1.2.1, fun _ => ?_⟩
      rw [show ((p.toNat : Nat) : Int) = p by omega]
      exact Int.emod_lt_of_pos _ hs
    · have x1 : drT m p (80 + 2) q = drM (drM m) (80 + 2) q := by unfold drT; rw [mu_j e]
      have x2 : mdT k p 270 q = mdM (mdM k) 270 q := by unfold mdT; rw [mu_j e]
      rw [x1, x2]
      exact c1
theorem drN_pair {P o : Int} : ∀ (n : Nat) (p : Int) (m k : Mem), 0 ≤ p → p + n ≤ P → DS P m k → DS P (drN o n p m) (mdN o n p k) := by
  intro n
  induction n with
  | zero => intro p m k _ _ h; exact h
  | succ n ih =>
    intro p m k h0 h1 h
    rw [drN_s, mdN_s, drV_eq h]
    have h3 := h.2.2 p.toNat (by omega)
    rw [show ((p.toNat : Nat) : Int) = p by omega] at h3
    rw [← h3.2.1]
    by_cases c : mdV k 100 < o ∧ 0 < gSd m 32 p
    · rw [if_pos c, if_pos c]
      exact ih _ _ _ (by omega) (by omega) (DS_T h (by omega) c.2)
    · rw [if_neg c, if_neg c]
      exact ih _ _ _ (by omega) (by omega) (DS_M h)
theorem drS_pair {P o : Int} (hP : 0 ≤ P) : ∀ (n : Nat) (m k : Mem), (∀ x : Mem, x 256 0 = x 256 0) → DS P m k → k 256 0 = P → MB k → DS P (drS o n m) (mdS o n k) := by
  intro n
  induction n with
  | zero => intro m k _ h _ _; exact h
  | succ n ih =>
    intro m k h0 h hk hB
    rw [drS_s, mdS_s, hk, h.2.1]
    have ok := mdN_ok hB (o := o) P.toNat 0 k (MK.rf k) ⟨hB.2.2.1, hB.2.2.2.2.2.2.2⟩
    refine ih _ _ h0 (drN_pair P.toNat 0 m k (by decide) (by omega) h) (by rw [ok.1.2 0 (by decide)]; exact hk) ?_
    have c := ok.1
    refine ⟨by rw [c.2 0 (by decide)]; exact hB.1, fun p => by rw [c.1 266 (by decide) (by decide)]; exact hB.2.1 p, ok.2.1, fun p => by rw [c.1 271 (by decide) (by decide)]; exact hB.2.2.2.1 p, fun p => by rw [c.1 268 (by decide) (by decide)]; exact hB.2.2.2.2.1 p, fun p => by rw [c.1 269 (by decide) (by decide)]; exact hB.2.2.2.2.2.1 p, fun p => by rw [c.1 272 (by decide) (by decide)]; exact hB.2.2.2.2.2.2.1 p, ok.2.2⟩
theorem mdS_ok {μ : Mem} (hB : MB μ) {o : Int} : ∀ (n : Nat) (m : Mem), MK μ m → TS m → MK μ (mdS o n m) ∧ TS (mdS o n m) := by
  intro n
  induction n with
  | zero => intro m h h2; exact ⟨h, h2⟩
  | succ n ih =>
    intro m h h2
    rw [mdS_s]
    have := mdN_ok hB (o := o) (m 256 0).toNat 0 m h h2
    exact ih _ this.1 this.2
theorem drS_ok {μ : Mem} (hL : LOK μ 32) {o : Int} : ∀ (n : Nat) (m : Mem), DOK μ m → DOK μ (drS o n m) := by
  intro n
  induction n with
  | zero => intro m h; exact h
  | succ n ih =>
    intro m h
    rw [drS_s]
    exact ih _ (drN_ok hL _ _ _ h.1 h.2.1 h.2.2)
theorem a_drift {μ : Mem} (H : REL μ) {n o : Int} (hn : inR n) (ho : inR o) : Agr mX11_drift mX12_drift [vi n, vi o] μ := by
  have hP := H.1.1.1
  have r0 : μ 256 0 = μ 32 0 := H.2.2.1.1.1
  have hMB := H.2.2.2.2.2.2.2.2.1
  have hSD := H.2.2.2.2.2.2.2.1
  refine ⟨(cDrift μ n o).1, _, t_drift H.ci hn ho, ?_⟩
  rintro w m ⟨rfl, hm⟩
  by_cases c : (1 ≤ n ∧ n ≤ 99) ∧ 0 ≤ o ∧ o ≤ 100
  · have h1 : cDrift μ n o = (cost (drS o n.toNat μ) 0, drS o n.toNat μ) := by unfold cDrift; rw [if_pos c]
    rw [h1] at hm ⊢
    obtain ⟨R, hR⟩ : ∃ R, R = drS o n.toNat μ := ⟨_, rfl⟩
    have hm : Fr R m := by rw [hR]; exact hm
    have dok : DOK μ R := by rw [hR]; exact drS_ok H.1.1 _ _ ⟨DK.rf μ, H.2.1.1, hSD.2⟩
    have mm : ∀ k, (k ≠ 82 ∧ k ≠ 96 ∧ k ≠ 99 ∧ k ≠ 176) → m k = μ k := fun k hk => (hm k (by omega) (by omega)).trans (dok.1 k (by omega) (by omega))
    have hBm : MB m := MB_cg (by rw [mm 256 (by decide)]) (by rw [mm 256 (by decide)]) (fun k a b => mm k (by omega)) hMB
    have ds0 : DS (μ 32 0) μ m := by
      refine ⟨by rw [mm 256 (by decide)]; exact hSD.1.symm, rfl, fun q hq => ?_⟩
      obtain ⟨e1, e2, e3, e4, e5, e6⟩ := RM.sd H.gi (p := q) (by omega)
      simp only [Int.toNat_natCast] at e1 e2 e3 e4 e5 e6
      rw [mm 270 (by decide), mm 266 (by decide)]
      refine ⟨e2.symm, by rw [e4, e1], fun z => ?_⟩
      rw [e4] at z ⊢
      exact H.2.1.2.1 q hq z
    obtain ⟨ν, hν⟩ : ∃ ν, ν = mdS o n.toNat m := ⟨_, rfl⟩
    have ds1 : DS (μ 32 0) R ν := by rw [hR, hν]; exact drS_pair hP.1 _ _ _ (fun _ => rfl) ds0 (by rw [mm 256 (by decide)]; exact r0) hBm
    have mk1 := mdS_ok hBm (o := o) n.toNat m (MK.rf m) ⟨hBm.2.2.1, hBm.2.2.2.2.2.2.2⟩
    rw [← hν] at mk1
    have e82 : ν (80 + 2) = R (80 + 2) := (mk1.1.1 _ (by decide) (by decide)).trans (hm _ (by decide) (by decide))
    have nc : ∀ k, (k ≠ 82 ∧ k ≠ 96 ∧ k ≠ 99 ∧ k ≠ 176 ∧ k ≠ 256 ∧ k ≠ 270) → ν k = μ k := fun k hk => (mk1.1.1 k (by omega) (by omega)).trans (mm k (by omega))
    have eGR : ∀ q, gSd R 32 q = gSd μ 32 q := fun q => gSd_cg (dok.1 32 (by decide) (by decide)) (dok.1 (32 + 10) (by decide) (by decide)) q
    have G : REL ν := by
      refine REL_posts H (fun k hk => nc k (by omega)) (fun j hj => by rw [mk1.1.2 j hj, mm 256 (by decide)]) ⟨⟨fun p => by rw [e82]; exact dok.2.1.1 p, fun p => by rw [nc (80 + 3) (by decide)]; exact H.2.1.1.2.1 p, fun p => by rw [nc (80 + 4) (by decide)]; exact H.2.1.1.2.2 p⟩, fun p hp hs => ?_, fun p t hp ht => ?_⟩ (fun p hp => ?_) (fun p t hp ht hx => ?_) ⟨by rw [mk1.1.2 0 (by decide)]; exact hBm.1, fun p => by rw [mk1.1.1 266 (by decide) (by decide)]; exact hBm.2.1 p, mk1.2.1, fun p => by rw [mk1.1.1 271 (by decide) (by decide)]; exact hBm.2.2.2.1 p, fun p => by rw [mk1.1.1 268 (by decide) (by decide)]; exact hBm.2.2.2.2.1 p, fun p => by rw [mk1.1.1 269 (by decide) (by decide)]; exact hBm.2.2.2.2.2.1 p, fun p => by rw [mk1.1.1 272 (by decide) (by decide)]; exact hBm.2.2.2.2.2.2.1 p, mk1.2.2⟩ ⟨?_, ?_⟩
      · rw [nc 32 (by decide)] at hp
        rw [nc (32 + 10) (by decide)] at hs ⊢
        have := (ds1.2.2 p hp).2.2
        rw [eGR, show gSd μ 32 p = μ (32 + 10) p by unfold gSd; rw [if_pos (by omega)]; rfl] at this
        rw [e82]; exact this hs
      · rw [nc 32 (by decide)] at hp ht
        rw [nc (32 + 12) (by decide), nc (32 + 13) (by decide), nc (80 + 4) (by decide)]
        exact H.2.1.2.2 p t hp ht
      · rw [e82, nc 271 (by decide), nc (80 + 3) (by decide)]
        exact ⟨(ds1.2.2 p hp).1.symm, (H.2.2.1.2.2.2.2.2.1 p hp).2⟩
      · rw [nc 272 (by decide), nc (80 + 4) (by decide)]
        exact H.2.2.1.2.2.2.2.2.2 p t hp ht hx
      · rw [← ds1.1, mk1.1.1 176 (by decide) (by decide), hm 176 (by decide) (by decide)]
      · rw [mk1.1.1 176 (by decide) (by decide), hm 176 (by decide) (by decide)]; exact dok.2.2
    have agR : Ag R ν := fun k hk => by
      by_cases e : k = 96 ∨ k = 99
      · omega
      · exact (mk1.1.1 k (by omega) (by omega)).trans (hm k (by omega) (by omega))
    have hcost := r_costNow G.gi G.1.ln G.gw.2.2.1 G.gw.2.2.2
    rw [cost_ag agR] at hcost
    rw [← hR]
    refine ⟨rfl, _, r_drift hBm (Z := cost R 0) hn ho (fun _ _ => by rw [← hν]; exact hcost), ?_⟩
    rintro w2 m2 ⟨rfl, hm2⟩
    have h2 : mDrift m n o (cost R 0) = (cost R 0, ν) := by unfold mDrift; rw [if_pos c, hν]
    rw [h2] at hm2 ⊢
    exact ⟨rfl, REL_sc (MWf.sc hm2) G⟩
  · have h1 : cDrift μ n o = (-1000000002, μ) := by unfold cDrift; rw [if_neg c]
    rw [h1] at hm ⊢
    have G := REL_sc (Fr.sc hm) H
    have h2 : ∀ Z, mDrift m n o Z = (-1000000002, m) := fun Z => by unfold mDrift; rw [if_neg c]
    refine ⟨rfl, _, r_drift G.2.2.2.2.2.2.2.2.1 (Z := 0) hn ho (fun a b => absurd ⟨a, b⟩ c), ?_⟩
    rintro w2 m2 ⟨rfl, hm2⟩
    rw [h2] at hm2 ⊢
    exact ⟨rfl, REL_sc (MWf.sc hm2) G⟩
/-! turns that fit -/
theorem shl5 : ∀ n : Nat, n < 6 → ∀ b : Nat, b < 31 → (hb (ishl 1 (n : Int) - 1) (b : Int) = 1 ↔ b < n) ∧ 0 ≤ ishl 1 (n : Int) - 1 ∧ ishl 1 (n : Int) - 1 ≤ 31 := by decide +kernel
theorem shl5' {n b : Int} (hn : 0 ≤ n ∧ n ≤ 5) (hb2 : 0 ≤ b ∧ b < 31) : (hb (ishl 1 n - 1) b = 1 ↔ b < n) ∧ 0 ≤ ishl 1 n - 1 ∧ ishl 1 n - 1 ≤ 31 := by
  have := shl5 n.toNat (by omega) b.toNat (by omega)
  rw [show ((n.toNat : Nat) : Int) = n by omega, show ((b.toNat : Nat) : Int) = b by omega] at this
  rw [this.1]
  exact ⟨by omega, this.2⟩
abbrev fT1 (μ : Mem) (p : Int) (j : Nat) : Int := (sTw μ 32 p (μ 148 j) (gSd μ 32 p).toNat 0 - gArm μ 32 p (μ 147 j)) % gSd μ 32 p
theorem fTl_hb {μ : Mem} (hL : LOK μ 32) {p : Int} (h0 : ¬ gSd μ 32 p = 0) : ∀ (n : Nat) (k s : Int), 0 ≤ k → (0 ≤ s ∧ s ≤ 31) → ∀ b, 0 ≤ b → b < 31 → (hb (fTl μ p n k s) b = 1 ↔ hb s b = 1 ∧ ∀ j : Nat, k ≤ j → (j : Int) < k + n → μ 146 j = p → b = fT1 μ p j) := by
  have hs := gSd_rg hL p
  intro n
  induction n with
  | zero => intro k s _ _ b _ _; exact ⟨fun h => ⟨h, fun j a c => by omega⟩, fun h => h.1⟩
  | succ n ih =>
    intro k s hk hs0 b hb0 hb1
    rw [fTl_s]
    have hT : 0 ≤ fT1 μ p k.toNat ∧ fT1 μ p k.toNat < gSd μ 32 p := ⟨Int.emod_nonneg _ h0, Int.emod_lt_of_pos _ (by omega)⟩
    by_cases c : μ 146 k.toNat = p
    · rw [if_pos c]
      have sr := shl_rg (p := fT1 μ p k.toNat) (by omega)
      have ar := and_rg (a := s) (b := ishl 1 (fT1 μ p k.toNat)) (by omega) sr
      show hb (fTl μ p n (k + 1) (iand s (ishl 1 (fT1 μ p k.toNat)))) b = 1 ↔ _
      rw [ih (k + 1) (iand s (ishl 1 (fT1 μ p k.toNat))) (by omega) (by omega) b hb0 hb1, hb_and (by omega) sr ⟨hb0, hb1⟩, hb_shl (by omega) ⟨hb0, hb1⟩]
      constructor
      · rintro ⟨⟨a1, a2⟩, a3⟩
        refine ⟨a1, fun j h1 h2 h3 => ?_⟩
        by_cases e : (j : Int) = k
        · rw [a2, show k.toNat = j by omega]
        · exact a3 j (by omega) (by omega) h3
      · rintro ⟨a1, a2⟩
        exact ⟨⟨a1, a2 k.toNat (by omega) (by omega) c⟩, fun j h1 h2 h3 => a2 j (by omega) (by omega) h3⟩
    · rw [if_neg c, ih (k + 1) s (by omega) hs0 b hb0 hb1]
      constructor
      · rintro ⟨a1, a3⟩
        refine ⟨a1, fun j h1 h2 h3 => ?_⟩
        by_cases e : (j : Int) = k
        · exact absurd (by rw [show k.toNat = j by omega]; exact h3) c
        · exact a3 j (by omega) (by omega) h3
      · rintro ⟨a1, a2⟩
        exact ⟨a1, fun j h1 h2 h3 => a2 j (by omega) (by omega) h3⟩
theorem mod_turn {S a b i : Int} (hS : 0 < S ∧ S ≤ 5) (ha : 0 ≤ a ∧ a < S) (hb : 0 ≤ b ∧ b < S) (hi : 0 ≤ i ∧ i < S) : (a + b) % S = i ↔ b = (i - a) % S := by
  rcases (show S = 1 ∨ S = 2 ∨ S = 3 ∨ S = 4 ∨ S = 5 by omega) with rfl | rfl | rfl | rfl | rfl <;> omega
theorem fit_eq {μ : Mem} (H : REL μ) {p : Int} (hp : 0 ≤ p ∧ p < μ 32 0) : mFit μ p = fitT μ p := by
  have hL := H.1.1
  have hs := gSd_rg hL p
  have hP := hL.1
  have hRS := H.2.2.2.1.1
  have hR2 := H.2.2.2.2.2.2.2.2.2.2.2
  unfold mFit fitT
  by_cases c : gSd μ 32 p = 0
  · rw [if_pos c, if_pos c]
  · rw [if_neg c, if_neg c]
    have s0 := shl5' (n := gSd μ 32 p) (b := 0) hs (by decide)
    have r1 := sb_hb0 (fun k => fitK μ p k (μ 144 4).toNat) (gSd μ 32 p).toNat (by omega)
    have r2 := fTl_rg hL c (μ 144 4).toNat 0 (ishl 1 (gSd μ 32 p) - 1) s0.2
    have hp2 : 2 ^ (gSd μ 32 p).toNat ≤ 2 ^ 5 := Nat.pow_le_pow_right (by decide) (by omega)
    refine hb_ext ⟨r1.1.1, by omega⟩ (by omega) (fun b h0 h1 => ?_)
    rw [r1.2 b h0 h1, fTl_hb hL c _ _ _ (by decide) s0.2 b h0 h1, (shl5' hs ⟨h0, h1⟩).1]
    rw [show ((gSd μ 32 p).toNat : Int) = gSd μ 32 p by omega]
    refine and_congr_right (fun hb => ?_)
    have e0 : gSd μ 32 p = μ (32 + 10) p.toNat := by unfold gSd; rw [if_pos hp]
    have key : ∀ j : Nat, (j : Int) < μ 144 4 → μ 146 j = p → (gBy μ 32 p (gRd μ 32 p (sA μ p (gArm μ 32 p (μ 147 j)) b)) = μ 148 j ↔ b = fT1 μ p j) := fun j hj hjp => by
      obtain ⟨q1, q2, q3, q4, q5⟩ := hRS.2.2 j hj
      have q6 := hR2 j hj
      rw [hjp] at q5 q6
      have am := RM.arm H.gi hp q3
      rcases sTw_sp (μ := μ) (p := p) (q := μ 148 j) (gSd μ 32 p).toNat 0 (by decide) with t | t
      · exact absurd t.1 q6
      · have es : sA μ p (gArm μ 32 p (μ 147 j)) b = (gArm μ 32 p (μ 147 j) + b) % gSd μ 32 p := by unfold sA; rw [if_pos (by omega)]
        have mt := mod_turn (S := gSd μ 32 p) (a := gArm μ 32 p (μ 147 j)) (b := b) (i := sTw μ 32 p (μ 148 j) (gSd μ 32 p).toNat 0) (by omega) (by omega) ⟨h0, hb⟩ (by omega)
        show _ ↔ b = (sTw μ 32 p (μ 148 j) (gSd μ 32 p).toNat 0 - gArm μ 32 p (μ 147 j)) % gSd μ 32 p
        rw [← mt, es]
        have m0 : 0 ≤ (gArm μ 32 p (μ 147 j) + b) % gSd μ 32 p ∧ (gArm μ 32 p (μ 147 j) + b) % gSd μ 32 p < gSd μ 32 p := ⟨Int.emod_nonneg _ c, Int.emod_lt_of_pos _ (by omega)⟩
        generalize (gArm μ 32 p (μ 147 j) + b) % gSd μ 32 p = x at m0 ⊢
        constructor
        · intro hx
          by_cases d : x = sTw μ 32 p (μ 148 j) (gSd μ 32 p).toNat 0
          · exact d
          · exfalso
            have dd := H.1.2.2.2.2.1 p
            rcases (show x < sTw μ 32 p (μ 148 j) (gSd μ 32 p).toNat 0 ∨ sTw μ 32 p (μ 148 j) (gSd μ 32 p).toNat 0 < x by omega) with z | z
            · exact dd x _ hp m0.1 z (by omega) (by rw [hx, t.2])
            · exact dd _ x hp (by omega) z m0.2 (by rw [hx, t.2])
        · intro hx; rw [hx]; exact t.2
    constructor
    · intro h j _ h2 h3
      exact (key j (by omega) h3).mp (h j (by omega) h3)
    · intro h j h2 h3
      exact (key j (by omega) h3).mpr (h j (by omega) (by omega) h3)
theorem a_fits {μ : Mem} (H : REL μ) {p : Int} (hp : inR p) : Agr mX11_fits mX12_fits [vi p] μ := by
  refine ⟨cFits μ p, _, t_fits H.ci hp, ?_⟩
  rintro w m ⟨rfl, rfl⟩
  refine ⟨rfl, _, r_fits H.gi H.2.2.2.1.1 hp, ?_⟩
  rintro w m ⟨rfl, rfl⟩
  refine ⟨congrArg vi ?_, H⟩
  unfold cFits
  by_cases c : 0 ≤ p ∧ p < m 32 0
  · rw [if_pos c, if_pos c, fit_eq H c]
  · rw [if_neg c, if_neg c]
theorem a_sure {μ : Mem} (H : REL μ) : Agr mX11_sure mX12_sure [] μ := by
  have hP := H.1.1.1
  have hbf : ∀ p, inR (bitsF (mFit μ p)) := fun p => by
    by_cases c : 0 ≤ p ∧ p < μ 32 0
    · rw [fit_eq H c]
      have := fitT_rg H.1.1 p
      have := bitsF_rg' (s := fitT μ p) (by omega)
      omega
    · have : mFit μ p = 1 := by unfold mFit; rw [if_pos (by unfold gSd; rw [if_neg c])]
      rw [this]; decide +kernel
  refine ⟨sb (fun p => bitsF (fitT μ p) = 1) (μ 32 0).toNat 0 0, _, t_sure H.ci, ?_⟩
  rintro w m ⟨rfl, rfl⟩
  refine ⟨rfl, _, r_sure H.gi H.2.2.2.1.1 hbf, ?_⟩
  rintro w m ⟨rfl, rfl⟩
  exact ⟨congrArg vi (sb_cg _ _ _ (fun k a b => by rw [fit_eq H (by omega)])), H⟩

theorem zr9_get : ∀ (n p : Nat) (U : Row) (x : Nat), zr9 n p U x = if p ≤ x ∧ x < p + n then 0 else U x := by
  intro n
  induction n with
  | zero => intro p U x; rw [if_neg (by omega)]; rfl
  | succ n ih =>
    intro p U x
    rw [zr9_s, ih]
    unfold up
    by_cases h : x = p
    · rw [if_neg (by omega), if_pos h, if_pos (by omega)]
    · by_cases h2 : p ≤ x ∧ x < p + (n + 1)
      · rw [if_pos (by omega), if_pos h2]
      · rw [if_neg (by omega), if_neg h, if_neg h2]
theorem ngR_get : ∀ (n : Nat) (k : Int) (D : Row) (x : Nat), 0 ≤ k → ngR n k D x = if (k ≤ x ∧ (x : Int) < k + n) ∧ 1000000 ≤ D x then -1 else D x := by
  intro n
  induction n with
  | zero => intro k D x _; rw [if_neg (by omega)]; rfl
  | succ n ih =>
    intro k D x hk
    rw [ngR_s, ih (k + 1) _ x (by omega)]
    unfold up
    by_cases h : x = k.toNat
    · subst h
      rw [if_pos rfl]
      by_cases h3 : 1000000 ≤ D k.toNat
      · rw [if_pos h3, if_neg (by omega), if_pos (by omega)]
      · rw [if_neg h3, if_neg (by omega), if_neg (by omega)]
    · rw [if_neg h]
      by_cases h3 : 1000000 ≤ D x
      · by_cases h2 : k ≤ x ∧ (x : Int) < k + ((n + 1 : Nat) : Int)
        · rw [if_pos (by omega), if_pos ⟨h2, h3⟩]
        · rw [if_neg (by omega), if_neg (by omega)]
      · rw [if_neg (by omega), if_neg (by omega)]
theorem fAi_get {L : Int → Int → Int} {p : Int} (hp : 0 ≤ p) : ∀ (n : Nat) (t : Int) (T : Row) (x : Nat), 0 ≤ t → t + n ≤ 9 → fAi L p n t T x = if 9 * p + t ≤ x ∧ (x : Int) < 9 * p + t + n then L p (x - 9 * p) else T x := by
  intro n
  induction n with
  | zero => intro t T x _ _; rw [if_neg (by omega)]; rfl
  | succ n ih =>
    intro t T x ht hn
    rw [fAi_s, ih (t + 1) _ x (by omega) (by omega)]
    unfold up
    by_cases h : x = (p * 9 + t).toNat
    · rw [if_neg (by omega), if_pos h, if_pos (by omega)]
      congr 1
      omega
    · by_cases h2 : 9 * p + t ≤ x ∧ (x : Int) < 9 * p + t + ((n + 1 : Nat) : Int)
      · rw [if_pos (by omega), if_pos h2]
      · rw [if_neg (by omega), if_neg h, if_neg h2]
theorem fAo_get {L : Int → Int → Int} : ∀ (n : Nat) (p : Int) (T : Row) (x : Nat), 0 ≤ p → fAo L n p T x = if 9 * p ≤ x ∧ (x : Int) < 9 * p + 9 * n then L (x / 9 : Nat) (x % 9 : Nat) else T x := by
  intro n
  induction n with
  | zero => intro p T x _; rw [if_neg (by omega)]; rfl
  | succ n ih =>
    intro p T x hp
    rw [fAo_s, ih (p + 1) _ x (by omega), fAi_get hp 9 0 T x (by decide) (by decide)]
    by_cases h : 9 * p + 0 ≤ x ∧ (x : Int) < 9 * p + 0 + (9 : Nat)
    · rw [if_neg (by omega), if_pos h, if_pos (by omega)]
      have e1 : p = ((x / 9 : Nat) : Int) := by omega
      have e2 : (x : Int) - 9 * p = ((x % 9 : Nat) : Int) := by omega
      rw [e2, ← e1]
    · by_cases h2 : 9 * p ≤ x ∧ (x : Int) < 9 * p + 9 * ((n + 1 : Nat) : Int)
      · rw [if_pos (by omega), if_pos h2]
      · rw [if_neg (by omega), if_neg h, if_neg h2]
theorem svD_db {μ : Mem} {o : Nat} (hL : LOK μ o) (hln : ∀ r, 0 ≤ gLn μ o r ∧ gLn μ o r ≤ 99) : DB (svD μ o) := fwN_db 9 0 _ (by decide) (by decide) (stD_db hln (fun x => hL.rg 12 x))
theorem LOK_svy {μ : Mem} {o : Nat} (hL : LOK μ o) (hln : ∀ r, 0 ≤ gLn μ o r ∧ gLn μ o r ≤ 99) : LOK (svy μ o) o := by
  unfold svy
  have hD := svD_db hL hln
  refine LOK_mw (LOK_mw hL (by decide : 4 ≤ 13) (by decide) (by decide) (fun x => ?_)) (by decide : 4 ≤ 12) (by decide) (by decide) (fun x => ?_)
  · rw [fAo_get 9 0 _ x (by decide)]
    split
    · have := lta_rg (LOK_mw hL (by decide : 4 ≤ 12) (by decide) (by decide) hD.1) (x / 9 : Nat) (x % 9 : Nat)
      exact ⟨by omega, by omega⟩
    · exact hL.rg 13 x
  · rw [ngR_get 81 0 _ x (by decide)]
    split
    · decide
    · exact hD.1 x
abbrev isWd (μ : Mem) (f : Int) (j : Nat) : Prop := μ 64 2 - f = slN j ∧ ∀ i, i < slN j → sg μ (f + i) = wB j i
theorem s_isWd {μ : Mem} (h : RI μ) {f : Int} (hf : 0 ≤ f ∧ f ≤ 400) {j : Nat} (hj : j < 3) : SP mX7_isWord [vr 64, vi f, vs j] μ (fun w m => w = vi (bi (isWd μ f j)) ∧ m = μ) := by
  have hl := RI_l h
  have h3 := h.2.2.1
  exact s_isWord h.1 h.2.1 (by omega) hf hj (fun q => bi_pos ⟨q.1, fun i hi => q.2 i (Nat.zero_le _) hi⟩) (fun q => bi_neg (fun q2 => q ⟨q2.1, fun i _ hi => q2.2 i hi⟩))
def wM (μ : Mem) : Mem := mu μ 64 2 (wE μ)
theorem RI_wM {μ : Mem} (h : RI μ) : RI (wM μ) := RI_2 h (by have := wE_rg h; have := h.2.2.1; omega)
def rCl (μ : Mem) : Mem := if isWd (wM μ) (μ 64 2) 0 then rPl (wM μ) (μ 64 2) else if 0 < wM μ 48 0 ∧ isWd (wM μ) (μ 64 2) 1 then rRd (wM μ) (μ 64 2) else if 0 < wM μ 48 0 ∧ isWd (wM μ) (μ 64 2) 2 then rTv (wM μ) (μ 64 2) else blm (wM μ) 1 (μ 64 2)
theorem RI_rCl {μ : Mem} (h : RI μ) : RI (rCl μ) := by
  have hW := RI_wM h
  unfold rCl
  split
  · exact RI_rPl hW
  · split
    · exact RI_rRd hW
    · split
      · exact RI_rTv hW
      · exact RI_b hW (by decide)
theorem DL_same {μ m : Mem} (h : DL μ) (h1 : m 48 1 = μ 48 1) (h2 : m (48 + 6) = μ (48 + 6)) : DL m := by
  unfold DL at h ⊢; rw [h1, h2]; exact h
theorem DL_c {μ m : Mem} (h : DL μ) (hc : ∀ c, c ≠ 64 → m c = μ c) : DL m := DL_same h (by rw [hc 48 (by decide)]) (hc _ (by decide))
theorem en_c {μ : Mem} {l g : Int} : ∀ c, c ≠ 64 → eM (nM μ l g) c = μ c := fun c h => by rw [eM_c h, nM_c h]
theorem aRoad_6 {μ : Mem} {a b k : Int} {r : Nat} : aRoad μ 48 a b k (48 + 6) r = if r = (μ 48 1).toNat then k else μ (48 + 6) r := by
  unfold aRoad aSide
  rw [mu_c (by decide), mu_c (by decide), mu_c (by decide), mu_c (by decide), mu_c (by decide), mu_ap]
  by_cases h : r = (μ 48 1).toNat
  · rw [if_pos ⟨rfl, h⟩, if_pos h]
  · rw [if_neg (fun q => h q.2), if_neg h, mu_c (by decide), mu_c (by decide)]
theorem aRoad_n {μ : Mem} {a b k : Int} : aRoad μ 48 a b k 48 1 = μ 48 1 + 1 := mu_h
theorem DL_rdT {μ : Mem} (h : DL μ) (hL : LOK μ 48) {a b : Int} : DL (rdT μ a b) := by
  unfold rdT
  split
  · rename_i hk
    have hn := nM_k (eM_k hk)
    have h1 := hL.2.1
    intro r hr
    rw [aRoad_n, en_c _ (by decide)] at hr
    rw [aRoad_6, en_c _ (by decide), en_c _ (by decide)]
    split
    · omega
    · exact h r (by omega)
  · exact DL_c h en_c
theorem aTrav_1 {μ : Mem} {a b k : Int} : aTrav μ 48 a b k 48 1 = μ 48 1 := by
  unfold aTrav
  rw [mu_j (by decide), mu_c (by decide), mu_c (by decide), mu_c (by decide)]
theorem aTrav_6 {μ : Mem} {a b k : Int} : aTrav μ 48 a b k (48 + 6) = μ (48 + 6) := by
  unfold aTrav
  rw [mu_ne (by decide), mu_ne (by decide), mu_ne (by decide), mu_ne (by decide)]
theorem DL_rdG {μ : Mem} (h : DL μ) {a b : Int} : DL (rdG μ a b) := by
  unfold rdG
  split
  · exact DL_same (DL_c h en_c) aTrav_1 aTrav_6
  · exact DL_c h en_c
theorem DL_rCl {μ : Mem} (hI : RI μ) (h : DL μ) : DL (rCl μ) := by
  have hW : DL (wM μ) := DL_c h (fun c hc => mu_ne hc)
  have hWI := RI_wM hI
  have hb : ∀ (m : Mem) (k a : Int), DL m → DL (blm m k a) := fun m k a hm => DL_c hm (fun c hc => blm_c hc)
  unfold rCl
  split
  · unfold rPl
    split
    · exact hb _ _ _ hW
    · split
      · exact DL_same (DL_c hW en_c) (mu_j (by decide)) (mu_ne (by decide))
      · exact DL_c hW en_c
  · split
    · unfold rRd
      split
      · exact hb _ _ _ hW
      · exact DL_rdT (DL_c hW (fun c hc => r4_c hc)) (RI_l48 (RI_r4 hWI))
    · split
      · unfold rTv
        split
        · exact hb _ _ _ hW
        · exact DL_rdG (DL_c hW (fun c hc => r5_c hc))
      · exact hb _ _ _ hW
def rdL : Nat → Mem → Mem
  | 0, μ => μ
  | n + 1, μ => if μ 64 3 = 0 ∧ μ 64 2 < μ 16 1 then rdL n (skM (rCl μ)) else μ
theorem rdL_s {n : Nat} {μ : Mem} : rdL (n + 1) μ = if μ 64 3 = 0 ∧ μ 64 2 < μ 16 1 then rdL n (skM (rCl μ)) else μ := rfl
def ra0 (μ : Mem) : Mem := mu (mu (mu μ 64 2 0) 64 3 0) 64 4 (-1)
def ra1 (μ : Mem) : Mem := skM (clr (ra0 μ) 48)
def ra2 (μ : Mem) : Mem := rdL 400 (ra1 μ)
def rAll (μ : Mem) : Mem := if ra2 μ 64 3 = 0 then svy (ra2 μ) 48 else ra2 μ
theorem clr_c {μ : Mem} {c : Nat} (h : c ≠ 48) (h2 : c ≠ 58) : clr μ 48 c = μ c := by
  unfold clr clr0
  rw [mw_ne h2, mu_ne h, mu_ne h, mu_ne h]
theorem LOK_clr {μ : Mem} (h : LOK μ 48) : LOK (clr μ 48) 48 := by
  obtain ⟨h1, h2, h3, h4, h5⟩ := h
  have e : clr μ 48 48 = mu (mu (mu μ 48 0 0) 48 1 0) 48 2 0 48 := mw_ne (by decide)
  refine ⟨?_, ?_, ?_, ?_, ?_⟩
  · rw [e, mu_j (by decide), mu_j (by decide), mu_h]; decide
  · rw [e, mu_j (by decide), mu_h]; decide
  · rw [e, mu_h]; decide
  · intro p
    unfold clr
    rw [mw_self, zr9_get]
    split
    · decide
    · exact h4 p
  · intro k j a b
    by_cases hk : k = 10
    · subst hk
      unfold clr
      rw [mw_self, zr9_get]
      split
      · decide
      · exact h5 10 j a b
    · rw [clr_c (by omega) (by omega)]; exact h5 k j a b
theorem RI_ra1 {μ : Mem} (hT : TOK μ) (hB : B8 μ) (hL : LOK μ 48) : RI (clr (ra0 μ) 48) := by
  have e : ∀ c, c ≠ 64 → ra0 μ c = μ c := fun c h => by unfold ra0; rw [mu_ne h, mu_ne h, mu_ne h]
  have c64 : clr (ra0 μ) 48 64 = ra0 μ 64 := clr_c (by decide) (by decide)
  refine ⟨?_, ?_, ?_, ?_, LOK_clr (LOK_c64 (LOK_c64 (LOK_c64 hL)))⟩
  · unfold TOK at hT ⊢; rw [clr_c (by decide) (by decide), e _ (by decide)]; exact hT
  · intro i; rw [clr_c (by decide) (by decide), e _ (by decide)]; exact hB i
  · rw [c64, clr_c (by decide) (by decide), e 16 (by decide)]
    unfold ra0
    rw [mu_j (by decide), mu_j (by decide), mu_h]
    exact ⟨by decide, hT.1⟩
  · rw [c64]
    unfold ra0
    rw [mu_j (by decide), mu_h]; decide
theorem DL_ra1 {μ : Mem} : DL (ra1 μ) := by
  intro r hr
  unfold ra1 at hr
  rw [skM_c (by decide)] at hr
  have e : clr (ra0 μ) 48 48 = mu (mu (mu (ra0 μ) 48 0 0) 48 1 0) 48 2 0 48 := mw_ne (by decide)
  rw [e, mu_j (by decide), mu_h] at hr
  omega
theorem RJ_rdL : ∀ (n : Nat) (μ : Mem), RI μ → DL μ → RI (rdL n μ) ∧ DL (rdL n μ) := by
  intro n
  induction n with
  | zero => intro μ h1 h2; exact ⟨h1, h2⟩
  | succ n ih =>
    intro μ h1 h2
    rw [rdL_s]
    split
    · exact ih _ (RI_sk (RI_rCl h1)) (DL_c (DL_rCl h1 h2) (fun c hc => skM_c hc))
    · exact ⟨h1, h2⟩

theorem s_skipW {μ : Mem} (h : RI μ) : SP mX7_skipWord [vr 64] μ (fun w m => w = un ∧ m = wM μ) := s_skipWord h

theorem rCl_0 {μ : Mem} (h : isWd (wM μ) (μ 64 2) 0) : rPl (wM μ) (μ 64 2) = rCl μ := by
  unfold rCl; rw [if_pos h]
theorem rCl_1 {μ : Mem} (h : ¬ isWd (wM μ) (μ 64 2) 0) (hp : 0 < wM μ 48 0) (h1 : isWd (wM μ) (μ 64 2) 1) : rRd (wM μ) (μ 64 2) = rCl μ := by
  unfold rCl; rw [if_neg h, if_pos ⟨hp, h1⟩]
theorem rCl_2 {μ : Mem} (h : ¬ isWd (wM μ) (μ 64 2) 0) (hp : 0 < wM μ 48 0) (h1 : ¬ isWd (wM μ) (μ 64 2) 1) (h2 : isWd (wM μ) (μ 64 2) 2) : rTv (wM μ) (μ 64 2) = rCl μ := by
  unfold rCl; rw [if_neg h, if_neg (fun q => h1 q.2), if_pos ⟨hp, h2⟩]
theorem rCl_3 {μ : Mem} (h : ¬ isWd (wM μ) (μ 64 2) 0) (h1 : ¬ isWd (wM μ) (μ 64 2) 1) (h2 : ¬ isWd (wM μ) (μ 64 2) 2) : blm (wM μ) 1 (μ 64 2) = rCl μ := by
  unfold rCl; rw [if_neg h, if_neg (fun q => h1 q.2), if_neg (fun q => h2 q.2)]
theorem rCl_4 {μ : Mem} (h : ¬ isWd (wM μ) (μ 64 2) 0) (h1 : wM μ 48 0 ≤ 0) : blm (wM μ) 1 (μ 64 2) = rCl μ := by
  unfold rCl; rw [if_neg h, if_neg (fun q => by have := q.1; omega), if_neg (fun q => by have := q.1; omega)]

set_option maxRecDepth 20000 in
theorem s_readClause {μ : Mem} (h : RI μ) : SP mX7_readClause [vr 64] μ (fun w m => w = un ∧ m = rCl μ) := by
  refine SP_intro (ls := [vr 64, un]) (by decide +kernel) rfl rfl (Nat.le_of_ble_eq_true rfl) rfl (fun X hX => ?_)
  have hW := RI_wM h
  have hl := RI_l h
  have h3 := h.2.2.1
  have hp := (RI_l48 hW).1
  refine V_aloadn (pc := 0) dX7_readClause_0 rfl ?_
  refine V_geti (r := 0) (pc := 1) dX7_readClause_1 fX7_26 zk_64 ?_
  refine V_istore_1 (pc := 4) dX7_readClause_4 (by decide) rfl ?_
  refine V_aloadn (pc := 5) dX7_readClause_5 rfl ?_
  refine V_cu0 (pc := 6) dX7_readClause_6 kX7_49 zk_64 (by decide) (Nat.le_of_ble_eq_true rfl) (s_skipW h) ?_
  refine V_aloadn (pc := 9) dX7_readClause_9 rfl ?_
  refine V_iloadn (pc := 10) dX7_readClause_10 rfl ?_
  refine V_ldcS0 (pc := 11) dX7_readClause_11 rfl ?_
  refine V_cv2 (pc := 13) dX7_readClause_13 kX7_54 zk_64 (by decide) (Nat.le_of_ble_eq_true rfl) (s_isWd hW (by omega) (j := 0) (by decide)) rfl ?_
  refine V_ifeq_b (pc := 16) (tgt := 27) dX7_readClause_16 (by decide) (fun h16 => ?_) (fun h16 => ?_)
  · refine V_aloadn (pc := 27) dX7_readClause_27 rfl ?_
    refine V_getr (pc := 28) dX7_readClause_28 fX7_19 zk_64 zr_64_1 ?_
    refine V_cv0 (pc := 31) dX7_readClause_31 kX7_62 zk_48 (by decide) (Nat.le_of_ble_eq_true rfl) (s_places LandAt_48) rfl ?_
    refine V_if_le (pc := 34) (tgt := 55) dX7_readClause_34 (by decide) (by omega) (fun h34 => ?_) (fun h34 => ?_)
    · refine V_aloadn (pc := 55) dX7_readClause_55 rfl ?_
      refine V_getr (pc := 56) dX7_readClause_56 fX7_19 zk_64 zr_64_1 ?_
      refine V_cv0 (pc := 59) dX7_readClause_59 kX7_62 zk_48 (by decide) (Nat.le_of_ble_eq_true rfl) (s_places LandAt_48) rfl ?_
      refine V_if_le (pc := 62) (tgt := 83) dX7_readClause_62 (by decide) (by omega) (fun h62 => ?_) (fun h62 => ?_)
      · refine V_aloadn (pc := 83) dX7_readClause_83 rfl ?_
        refine V_iconst (pc := 84) dX7_readClause_84 ?_
        refine V_iloadn (pc := 85) dX7_readClause_85 rfl ?_
        refine V_cu2 (pc := 86) dX7_readClause_86 kX7_74 zk_64 (by decide) (Nat.le_of_ble_eq_true rfl) (s_blm hW) ?_
        refine V_vret (x := 0) hX dX7_readClause_89 rfl ?_
        refine ⟨rfl, ?_⟩
        first | exact rCl_0 h16 | exact rCl_1 h16 (by omega) h44 | exact rCl_2 h16 (by omega) h44 h72 | exact rCl_3 h16 h44 h72 | exact rCl_4 h16 (by omega) | (exfalso; omega)
      · refine V_aloadn (pc := 65) dX7_readClause_65 rfl ?_
        refine V_iloadn (pc := 66) dX7_readClause_66 rfl ?_
        refine V_ldcS2 (pc := 67) dX7_readClause_67 rfl ?_
        refine V_cv2 (pc := 69) dX7_readClause_69 kX7_54 zk_64 (by decide) (Nat.le_of_ble_eq_true rfl) (s_isWd hW (by omega) (j := 2) (by decide)) rfl ?_
        refine V_ifeq_b (pc := 72) (tgt := 83) dX7_readClause_72 (by decide) (fun h72 => ?_) (fun h72 => ?_)
        · refine V_aloadn (pc := 83) dX7_readClause_83 rfl ?_
          refine V_iconst (pc := 84) dX7_readClause_84 ?_
          refine V_iloadn (pc := 85) dX7_readClause_85 rfl ?_
          refine V_cu2 (pc := 86) dX7_readClause_86 kX7_74 zk_64 (by decide) (Nat.le_of_ble_eq_true rfl) (s_blm hW) ?_
          refine V_vret (x := 0) hX dX7_readClause_89 rfl ?_
          refine ⟨rfl, ?_⟩
          first | exact rCl_0 h16 | exact rCl_1 h16 (by omega) h44 | exact rCl_2 h16 (by omega) h44 h72 | exact rCl_3 h16 h44 h72 | exact rCl_4 h16 (by omega) | (exfalso; omega)
        · refine V_aloadn (pc := 75) dX7_readClause_75 rfl ?_
          refine V_iloadn (pc := 76) dX7_readClause_76 rfl ?_
          refine V_cu1 (pc := 77) dX7_readClause_77 kX7_71 zk_64 (by decide) (Nat.le_of_ble_eq_true rfl) (s_readTravel hW) ?_
          refine V_goto (pc := 80) (tgt := 89) dX7_readClause_80 (by decide) ?_
          refine V_vret (x := 0) hX dX7_readClause_89 rfl ?_
          refine ⟨rfl, ?_⟩
          first | exact rCl_0 h16 | exact rCl_1 h16 (by omega) h44 | exact rCl_2 h16 (by omega) h44 h72 | exact rCl_3 h16 h44 h72 | exact rCl_4 h16 (by omega) | (exfalso; omega)
    · refine V_aloadn (pc := 37) dX7_readClause_37 rfl ?_
      refine V_iloadn (pc := 38) dX7_readClause_38 rfl ?_
      refine V_ldcS1 (pc := 39) dX7_readClause_39 rfl ?_
      refine V_cv2 (pc := 41) dX7_readClause_41 kX7_54 zk_64 (by decide) (Nat.le_of_ble_eq_true rfl) (s_isWd hW (by omega) (j := 1) (by decide)) rfl ?_
      refine V_ifeq_b (pc := 44) (tgt := 55) dX7_readClause_44 (by decide) (fun h44 => ?_) (fun h44 => ?_)
      · refine V_aloadn (pc := 55) dX7_readClause_55 rfl ?_
        refine V_getr (pc := 56) dX7_readClause_56 fX7_19 zk_64 zr_64_1 ?_
        refine V_cv0 (pc := 59) dX7_readClause_59 kX7_62 zk_48 (by decide) (Nat.le_of_ble_eq_true rfl) (s_places LandAt_48) rfl ?_
        refine V_if_le (pc := 62) (tgt := 83) dX7_readClause_62 (by decide) (by omega) (fun h62 => ?_) (fun h62 => ?_)
        · refine V_aloadn (pc := 83) dX7_readClause_83 rfl ?_
          refine V_iconst (pc := 84) dX7_readClause_84 ?_
          refine V_iloadn (pc := 85) dX7_readClause_85 rfl ?_
          refine V_cu2 (pc := 86) dX7_readClause_86 kX7_74 zk_64 (by decide) (Nat.le_of_ble_eq_true rfl) (s_blm hW) ?_
          refine V_vret (x := 0) hX dX7_readClause_89 rfl ?_
          refine ⟨rfl, ?_⟩
          first | exact rCl_0 h16 | exact rCl_1 h16 (by omega) h44 | exact rCl_2 h16 (by omega) h44 h72 | exact rCl_3 h16 h44 h72 | exact rCl_4 h16 (by omega) | (exfalso; omega)
        · refine V_aloadn (pc := 65) dX7_readClause_65 rfl ?_
          refine V_iloadn (pc := 66) dX7_readClause_66 rfl ?_
          refine V_ldcS2 (pc := 67) dX7_readClause_67 rfl ?_
          refine V_cv2 (pc := 69) dX7_readClause_69 kX7_54 zk_64 (by decide) (Nat.le_of_ble_eq_true rfl) (s_isWd hW (by omega) (j := 2) (by decide)) rfl ?_
          refine V_ifeq_b (pc := 72) (tgt := 83) dX7_readClause_72 (by decide) (fun h72 => ?_) (fun h72 => ?_)
          · refine V_aloadn (pc := 83) dX7_readClause_83 rfl ?_
            refine V_iconst (pc := 84) dX7_readClause_84 ?_
            refine V_iloadn (pc := 85) dX7_readClause_85 rfl ?_
            refine V_cu2 (pc := 86) dX7_readClause_86 kX7_74 zk_64 (by decide) (Nat.le_of_ble_eq_true rfl) (s_blm hW) ?_
            refine V_vret (x := 0) hX dX7_readClause_89 rfl ?_
            refine ⟨rfl, ?_⟩
            first | exact rCl_0 h16 | exact rCl_1 h16 (by omega) h44 | exact rCl_2 h16 (by omega) h44 h72 | exact rCl_3 h16 h44 h72 | exact rCl_4 h16 (by omega) | (exfalso; omega)
          · refine V_aloadn (pc := 75) dX7_readClause_75 rfl ?_
            refine V_iloadn (pc := 76) dX7_readClause_76 rfl ?_
            refine V_cu1 (pc := 77) dX7_readClause_77 kX7_71 zk_64 (by decide) (Nat.le_of_ble_eq_true rfl) (s_readTravel hW) ?_
            refine V_goto (pc := 80) (tgt := 89) dX7_readClause_80 (by decide) ?_
            refine V_vret (x := 0) hX dX7_readClause_89 rfl ?_
            refine ⟨rfl, ?_⟩
            first | exact rCl_0 h16 | exact rCl_1 h16 (by omega) h44 | exact rCl_2 h16 (by omega) h44 h72 | exact rCl_3 h16 h44 h72 | exact rCl_4 h16 (by omega) | (exfalso; omega)
      · refine V_aloadn (pc := 47) dX7_readClause_47 rfl ?_
        refine V_iloadn (pc := 48) dX7_readClause_48 rfl ?_
        refine V_cu1 (pc := 49) dX7_readClause_49 kX7_66 zk_64 (by decide) (Nat.le_of_ble_eq_true rfl) (s_readRoad hW) ?_
        refine V_goto (pc := 52) (tgt := 89) dX7_readClause_52 (by decide) ?_
        refine V_vret (x := 0) hX dX7_readClause_89 rfl ?_
        refine ⟨rfl, ?_⟩
        first | exact rCl_0 h16 | exact rCl_1 h16 (by omega) h44 | exact rCl_2 h16 (by omega) h44 h72 | exact rCl_3 h16 h44 h72 | exact rCl_4 h16 (by omega) | (exfalso; omega)
  · refine V_aloadn (pc := 19) dX7_readClause_19 rfl ?_
    refine V_iloadn (pc := 20) dX7_readClause_20 rfl ?_
    refine V_cu1 (pc := 21) dX7_readClause_21 kX7_58 zk_64 (by decide) (Nat.le_of_ble_eq_true rfl) (s_readPlaces hW) ?_
    refine V_goto (pc := 24) (tgt := 89) dX7_readClause_24 (by decide) ?_
    refine V_vret (x := 0) hX dX7_readClause_89 rfl ?_
    refine ⟨rfl, ?_⟩
    first | exact rCl_0 h16 | exact rCl_1 h16 (by omega) h44 | exact rCl_2 h16 (by omega) h44 h72 | exact rCl_3 h16 h44 h72 | exact rCl_4 h16 (by omega) | (exfalso; omega)

set_option maxRecDepth 20000 in
theorem l_readAll {X : ZX} {R : Mem} (hK : RI R → DL R → ∀ k, V X mX7_readAll 70 [vr 64, vi k] [] R) : ∀ (n : Nat) (k : Int) (ν : Mem), (k + n = 400) → (0 ≤ k) → (RI ν) → (DL ν) → (rdL n ν = R) → V X mX7_readAll 28 [vr 64, vi k] [] ν := by
  intro n
  induction n with
  | zero =>
    intro k ν h1 h0 h hd hR
    have hl := RI_l h
    have h3 := h.2.2.1
    have h4 := h.2.2.2.1
    refine V_iloadn (pc := 28) dX7_readAll_28 rfl ?_
    refine V_sipush (pc := 29) dX7_readAll_29 (by decide +kernel) ?_
    refine V_icmp_ge (pc := 32) (tgt := 70) dX7_readAll_32 (by decide) (by omega) (by decide) (fun h32 => ?_) (fun h32 => ?_)
    · subst hR
      exact hK h hd k
    · exfalso; omega
  | succ n ih =>
    intro k ν h1 h0 h hd hR
    have hl := RI_l h
    have h3 := h.2.2.1
    have h4 := h.2.2.2.1
    refine V_iloadn (pc := 28) dX7_readAll_28 rfl ?_
    refine V_sipush (pc := 29) dX7_readAll_29 (by decide +kernel) ?_
    refine V_icmp_ge (pc := 32) (tgt := 70) dX7_readAll_32 (by decide) (by omega) (by decide) (fun h32 => ?_) (fun h32 => ?_)
    · exfalso; omega
    · refine V_aloadn (pc := 35) dX7_readAll_35 rfl ?_
      refine V_geti (r := 0) (pc := 36) dX7_readAll_36 fX7_23 zk_64 ?_
      refine V_if_ne (pc := 39) (tgt := 70) dX7_readAll_39 (by decide) (by omega) (fun h39 => ?_) (fun h39 => ?_)
      · have e : ν = R := by rw [← hR, rdL_s, if_neg (by omega)]
        subst e
        exact hK h hd k
      · refine V_aloadn (pc := 42) dX7_readAll_42 rfl ?_
        refine V_geti (r := 0) (pc := 43) dX7_readAll_43 fX7_26 zk_64 ?_
        refine V_aloadn (pc := 46) dX7_readAll_46 rfl ?_
        refine V_getr (pc := 47) dX7_readAll_47 fX7_15 zk_64 zr_64_0 ?_
        refine V_cv0 (pc := 50) dX7_readAll_50 kX7_37 zk_16 (by decide) (Nat.le_of_ble_eq_true rfl) (s_length) rfl ?_
        refine V_icmp_ge (pc := 53) (tgt := 70) dX7_readAll_53 (by decide) (by omega) (by omega) (fun h53 => ?_) (fun h53 => ?_)
        · have e : ν = R := by rw [← hR, rdL_s, if_neg (by omega)]
          subst e
          exact hK h hd k
        · refine V_aloadn (pc := 56) dX7_readAll_56 rfl ?_
          refine V_cu0 (pc := 57) dX7_readAll_57 kX7_43 zk_64 (by decide) (Nat.le_of_ble_eq_true rfl) (s_readClause h) ?_
          refine V_aloadn (pc := 60) dX7_readAll_60 rfl ?_
          refine V_cu0 (pc := 61) dX7_readAll_61 kX7_34 zk_64 (by decide) (Nat.le_of_ble_eq_true rfl) (s_skip (RI_rCl h)) ?_
          refine V_iinc_1 (pc := 64) dX7_readAll_64 (by decide) rfl ?_
          refine V_goto (pc := 67) (tgt := 28) dX7_readAll_67 (by decide) ?_
          exact ih (k + 1) _ (by omega) (by omega) (RI_sk (RI_rCl h)) (DL_c (DL_rCl h hd) (fun c hc => skM_c hc)) (by rw [← hR, rdL_s, if_pos (by omega)])

set_option maxRecDepth 20000 in
theorem s_readAll {μ : Mem} (hT : TOK μ) (hB : B8 μ) (hL : LOK μ 48) : SP mX7_readAll [vr 64] μ (fun w m => w = un ∧ m = rAll μ) := by
  refine SP_intro (ls := [vr 64, un]) (by decide +kernel) rfl rfl (Nat.le_of_ble_eq_true rfl) rfl (fun X hX => ?_)
  have h := RI_ra1 hT hB hL
  refine V_aloadn (pc := 0) dX7_readAll_0 rfl ?_
  refine V_iconst (pc := 1) dX7_readAll_1 ?_
  refine V_puti (pc := 2) dX7_readAll_2 fX7_26 zk_64 ?_
  refine V_aloadn (pc := 5) dX7_readAll_5 rfl ?_
  refine V_iconst (pc := 6) dX7_readAll_6 ?_
  refine V_puti (pc := 7) dX7_readAll_7 fX7_23 zk_64 ?_
  refine V_aloadn (pc := 10) dX7_readAll_10 rfl ?_
  refine V_iconst (pc := 11) dX7_readAll_11 ?_
  refine V_puti (pc := 12) dX7_readAll_12 fX7_9 zk_64 ?_
  refine V_aloadn (pc := 15) dX7_readAll_15 rfl ?_
  refine V_getr (pc := 16) dX7_readAll_16 fX7_19 zk_64 zr_64_1 ?_
  refine V_cu0 (pc := 19) dX7_readAll_19 kX7_29 zk_48 (by decide) (Nat.le_of_ble_eq_true rfl) (s_clear LandAt_48) ?_
  refine V_aloadn (pc := 22) dX7_readAll_22 rfl ?_
  refine V_cu0 (pc := 23) dX7_readAll_23 kX7_34 zk_64 (by decide) (Nat.le_of_ble_eq_true rfl) (s_skip h) ?_
  refine V_iconst (pc := 26) dX7_readAll_26 ?_
  refine V_istore_1 (pc := 27) dX7_readAll_27 (by decide) rfl ?_
  refine l_readAll (R := ra2 μ) (fun hI hDD k => ?_) 400 0 (ra1 μ) (by omega) (by omega) (RI_sk h) DL_ra1 rfl
  refine V_aloadn (pc := 70) dX7_readAll_70 rfl ?_
  have hk := hI.2.2.2.1
  refine V_geti (r := 0) (pc := 71) dX7_readAll_71 fX7_23 zk_64 ?_
  refine V_if_ne (pc := 74) (tgt := 84) dX7_readAll_74 (by decide) (by omega) (fun h74 => ?_) (fun h74 => ?_)
  · refine V_vret (x := 0) hX dX7_readAll_84 rfl ?_
    exact ⟨rfl, by unfold rAll; first | rw [if_pos (by omega)] | rw [if_neg (by omega)]⟩
  · refine V_aloadn (pc := 77) dX7_readAll_77 rfl ?_
    refine V_getr (pc := 78) dX7_readAll_78 fX7_19 zk_64 zr_64_1 ?_
    refine V_cu0 (pc := 81) dX7_readAll_81 kX7_46 zk_48 (by decide) (Nat.le_of_ble_eq_true rfl) (s_survey LandAt_48 (RI_l48 hI) (DL_gLn hDD)) ?_
    refine V_vret (x := 0) hX dX7_readAll_84 rfl ?_
    exact ⟨rfl, by unfold rAll; first | rw [if_pos (by omega)] | rw [if_neg (by omega)]⟩

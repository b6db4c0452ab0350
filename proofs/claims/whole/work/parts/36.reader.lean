theorem mu_mu {μ : Mem} {k j : Nat} {x y : Int} : mu (mu μ k j x) k j y = mu μ k j y := by
  funext a b; simp only [mu]; split <;> rfl
theorem mu_sv {μ : Mem} {k j : Nat} : mu μ k j (μ k j) = μ := by
  funext a b
  simp only [mu]
  split
  · rename_i h; obtain ⟨rfl, rfl⟩ := h; rfl
  · rfl
/-- on while c holds, at most n places -/
def skG (c : Int → Prop) [DecidablePred c] : Nat → Int → Int
  | 0, a => a
  | n + 1, a => if c a then skG c n (a + 1) else a
theorem skG_s {c : Int → Prop} [DecidablePred c] {n : Nat} {a : Int} : skG c (n + 1) a = if c a then skG c n (a + 1) else a := rfl
theorem skG_rg {c : Int → Prop} [DecidablePred c] {L : Int} (h : ∀ a, c a → a < L) : ∀ (n : Nat) (a : Int), a ≤ L → a ≤ skG c n a ∧ skG c n a ≤ L := by
  intro n
  induction n with
  | zero => intro a ha; exact ⟨Int.le_refl _, ha⟩
  | succ n ih =>
    intro a ha
    rw [skG_s]
    split
    · rename_i hc
      have := h a hc
      have := ih (a + 1) (by omega)
      omega
    · omega
abbrev bC (σ : Int → Int) (a : Int) : Prop := σ a = 32
abbrev lC (σ : Int → Int) (a : Int) : Prop := 97 ≤ σ a ∧ σ a ≤ 122
abbrev dC (σ : Int → Int) (a : Int) : Prop := 48 ≤ σ a ∧ σ a ≤ 57
def cnv (σ : Int → Int) : Nat → Int → Int → Int
  | 0, _, v => v
  | n + 1, a, v => if dC σ a then cnv σ n (a + 1) (min 1000 (v * 10 + σ a - 48)) else v
theorem cnv_s {σ : Int → Int} {n : Nat} {a v : Int} : cnv σ (n + 1) a v = if dC σ a then cnv σ n (a + 1) (min 1000 (v * 10 + σ a - 48)) else v := rfl
theorem cnv_rg {σ : Int → Int} : ∀ (n : Nat) (a v : Int), 0 ≤ v ∧ v ≤ 1000 → 0 ≤ cnv σ n a v ∧ cnv σ n a v ≤ 1000 := by
  intro n
  induction n with
  | zero => intro a v h; exact h
  | succ n ih =>
    intro a v h
    rw [cnv_s]
    split
    · rename_i hc
      unfold dC at hc
      exact ih _ _ ⟨by omega, by omega⟩
    · exact h
theorem sg_c {μ : Mem} {k j : Nat} {v : Int} (h1 : k ≠ 16) (h2 : k ≠ 17) : sg (mu μ k j v) = sg μ := by
  funext a
  simp only [sg, mu_c (show (16 : Nat) ≠ k by omega), mu_c (show (17 : Nat) ≠ k by omega)]
theorem sg_lt {μ : Mem} {a : Int} (h : 0 ≤ sg μ a) : 0 ≤ a ∧ a < μ 16 1 := by
  unfold sg at h
  split at h
  · assumption
  · omega
def B8 (μ : Mem) : Prop := ∀ i, 0 ≤ μ 17 i ∧ μ 17 i ≤ 255
def RI (μ : Mem) : Prop := TOK μ ∧ B8 μ ∧ (0 ≤ μ 64 2 ∧ μ 64 2 ≤ μ 16 1) ∧ (0 ≤ μ 64 3 ∧ μ 64 3 ≤ 4) ∧ LOK μ 48
theorem TOK_c {μ : Mem} {k j : Nat} {v : Int} (h : k ≠ 16) (hT : TOK μ) : TOK (mu μ k j v) := by
  unfold TOK at hT ⊢; rw [mu_c (show (16 : Nat) ≠ k by omega)]; exact hT
theorem B8_c {μ : Mem} {k j : Nat} {v : Int} (h : k ≠ 17) (hT : B8 μ) : B8 (mu μ k j v) := by
  intro i; rw [mu_c (show (17 : Nat) ≠ k by omega)]; exact hT i
theorem LOK_c64 {μ : Mem} {j : Nat} {v : Int} (h : LOK μ 48) : LOK (mu μ 64 j v) 48 := by
  obtain ⟨h1, h2, h3, h4, h5⟩ := h
  refine ⟨?_, ?_, ?_, ?_, ?_⟩
  · rw [mu_c (by decide)]; exact h1
  · rw [mu_c (by decide)]; exact h2
  · rw [mu_c (by decide)]; exact h3
  · intro p; rw [mu_c (by decide)]; exact h4 p
  · intro k j a b; rw [mu_c (by omega)]; exact h5 k j a b
theorem RI_2 {μ : Mem} (h : RI μ) {x : Int} (hx : 0 ≤ x ∧ x ≤ μ 16 1) : RI (mu μ 64 2 x) := by
  obtain ⟨h1, h2, h3, h4, h5⟩ := h
  exact ⟨TOK_c (by decide) h1, B8_c (by decide) h2, by rw [mu_h, mu_c (by decide)]; exact hx, by rw [mu_j (by decide)]; exact h4, LOK_c64 h5⟩
def blm (μ : Mem) (k a : Int) : Mem := if μ 64 3 = 0 then mu (mu μ 64 3 k) 64 4 a else μ
theorem blm_c {μ : Mem} {k a : Int} {c : Nat} (h : c ≠ 64) : blm μ k a c = μ c := by
  unfold blm
  split
  · rw [mu_ne h, mu_ne h]
  · rfl
theorem blm_2 {μ : Mem} {k a : Int} : blm μ k a 64 2 = μ 64 2 := by
  unfold blm
  split
  · rw [mu_j (by decide), mu_j (by decide)]
  · rfl
theorem blm_3 {μ : Mem} {k a : Int} : blm μ k a 64 3 = if μ 64 3 = 0 then k else μ 64 3 := by
  unfold blm
  split
  · rw [mu_j (by decide), mu_h]
  · rfl
theorem blm_4 {μ : Mem} {k a : Int} : blm μ k a 64 4 = if μ 64 3 = 0 then a else μ 64 4 := by
  unfold blm
  split
  · rw [mu_h]
  · rfl
theorem RI_b {μ : Mem} (h : RI μ) {k a : Int} (hk : 0 ≤ k ∧ k ≤ 4) : RI (blm μ k a) := by
  unfold blm
  split
  · obtain ⟨h1, h2, h3, h4, h5⟩ := h
    exact ⟨TOK_c (by decide) (TOK_c (by decide) h1), B8_c (by decide) (B8_c (by decide) h2), by rw [mu_j (by decide), mu_j (by decide), mu_c (by decide), mu_c (by decide)]; exact h3, by rw [mu_j (by decide), mu_h]; exact hk, LOK_c64 (LOK_c64 h5)⟩
  · exact h
theorem sg_blm {μ : Mem} {k a : Int} : sg (blm μ k a) = sg μ := by
  funext x
  simp only [sg, blm_c (show (16 : Nat) ≠ 64 by decide), blm_c (show (17 : Nat) ≠ 64 by decide)]
theorem s_blm {μ : Mem} (h : RI μ) {k a : Int} : SP mX7_blame [vr 64, vi k, vi a] μ (fun w m => w = un ∧ m = blm μ k a) := s_blame (by have := h.2.2.2.1; omega)
theorem s_sgn {μ : Mem} (hT : TOK μ) {a x : Int} (ha : inR a) : SP mX10_signAt [vr 16, vi a] (mu μ 64 2 x) (fun w m => w = vi (sg μ a) ∧ m = mu μ 64 2 x) := by
  have := s_signAt (TOK_c (j := 2) (v := x) (show (64 : Nat) ≠ 16 by decide) hT) ha
  rwa [sg_c (by decide) (by decide)] at this
theorem RI_l {μ : Mem} (h : RI μ) : 0 ≤ μ 16 1 ∧ μ 16 1 ≤ 400 := h.1
theorem sg_r {μ : Mem} (h : RI μ) (a : Int) : -1 ≤ sg μ a ∧ sg μ a ≤ 255 := sg_rg h.2.1 a
def nB (μ : Mem) : Int := skG (bC (sg μ)) 400 (μ 64 2)
def nE (μ : Mem) : Int := skG (dC (sg μ)) 400 (nB μ)
def wE (μ : Mem) : Int := skG (lC (sg μ)) 400 (μ 64 2)
def nV (μ : Mem) : Int := cnv (sg μ) 400 (nB μ) 0
theorem nB_rg {μ : Mem} (h : RI μ) : μ 64 2 ≤ nB μ ∧ nB μ ≤ μ 16 1 :=
  skG_rg (fun a (ha : sg μ a = 32) => (sg_lt (by omega)).2) 400 _ h.2.2.1.2
theorem nE_rg {μ : Mem} (h : RI μ) : nB μ ≤ nE μ ∧ nE μ ≤ μ 16 1 :=
  skG_rg (fun a (ha : 48 ≤ sg μ a ∧ sg μ a ≤ 57) => (sg_lt (by omega)).2) 400 _ (nB_rg h).2
theorem wE_rg {μ : Mem} (h : RI μ) : μ 64 2 ≤ wE μ ∧ wE μ ≤ μ 16 1 :=
  skG_rg (fun a (ha : 97 ≤ sg μ a ∧ sg μ a ≤ 122) => (sg_lt (by omega)).2) 400 _ h.2.2.1.2
theorem nV_rg (μ : Mem) : 0 ≤ nV μ ∧ nV μ ≤ 1000 := cnv_rg _ _ _ (by decide)

set_option maxRecDepth 20000 in
theorem l_skipBlanks {μ : Mem} (h : RI μ) {X : ZX} {R : Int} (hX : isM X (fun w m => w = un ∧ m = mu μ 64 2 R)) : ∀ (n : Nat) (k a : Int), (k + n = 400) → (0 ≤ k) → (0 ≤ a ∧ a ≤ μ 16 1) → (skG (bC (sg μ)) n a = R) → V X mX7_skipBlanks 2 [vr 64, vi k] [] (mu μ 64 2 a) := by
  intro n
  induction n with
  | zero =>
    intro k a h1 h0 h2 hR
    have hl := RI_l h
    have hs := sg_r h a
    refine V_iloadn (pc := 2) dX7_skipBlanks_2 rfl ?_
    refine V_sipush (pc := 3) dX7_skipBlanks_3 (by decide +kernel) ?_
    refine V_icmp_ge (pc := 6) (tgt := 41) dX7_skipBlanks_6 (by decide) (by omega) (by decide) (fun h6 => ?_) (fun h6 => ?_)
    · refine V_vret (x := 0) hX dX7_skipBlanks_41 rfl ?_
      exact ⟨rfl, by rw [← hR]; rfl⟩
    · exfalso; omega
  | succ n ih =>
    intro k a h1 h0 h2 hR
    have hl := RI_l h
    have hs := sg_r h a
    refine V_iloadn (pc := 2) dX7_skipBlanks_2 rfl ?_
    refine V_sipush (pc := 3) dX7_skipBlanks_3 (by decide +kernel) ?_
    refine V_icmp_ge (pc := 6) (tgt := 41) dX7_skipBlanks_6 (by decide) (by omega) (by decide) (fun h6 => ?_) (fun h6 => ?_)
    · exfalso; omega
    · refine V_aloadn (pc := 9) dX7_skipBlanks_9 rfl ?_
      refine V_getr (pc := 10) dX7_skipBlanks_10 fX7_15 zk_64 zr_64_0 ?_
      refine V_aloadn (pc := 13) dX7_skipBlanks_13 rfl ?_
      refine V_geti (r := 0) (pc := 14) dX7_skipBlanks_14 fX7_26 zk_64 ?_
      rw [mu_h]
      refine V_cv1 (pc := 17) dX7_skipBlanks_17 kX7_105 zk_16 (by decide) (Nat.le_of_ble_eq_true rfl) (s_sgn h.1 (by omega)) rfl ?_
      refine V_bipush (pc := 20) dX7_skipBlanks_20 (by decide +kernel) ?_
      refine V_icmp_ne (pc := 22) (tgt := 41) dX7_skipBlanks_22 (by decide) (by omega) (by decide) (fun h22 => ?_) (fun h22 => ?_)
      · refine V_vret (x := 0) hX dX7_skipBlanks_41 rfl ?_
        exact ⟨rfl, by rw [← hR, skG_s, if_neg (by omega)]⟩
      · refine V_aloadn (pc := 25) dX7_skipBlanks_25 rfl ?_
        refine V_dup_r (pc := 26) dX7_skipBlanks_26 ?_
        refine V_geti (r := 0) (pc := 27) dX7_skipBlanks_27 fX7_26 zk_64 ?_
        rw [mu_h]
        refine V_iconst (pc := 30) dX7_skipBlanks_30 ?_
        refine V_iadd (pc := 31) dX7_skipBlanks_31 ?_
        refine V_puti (pc := 32) dX7_skipBlanks_32 fX7_26 zk_64 ?_
        refine V_iinc_1 (pc := 35) dX7_skipBlanks_35 (by decide) rfl ?_
        refine V_goto (pc := 38) (tgt := 2) dX7_skipBlanks_38 (by decide) ?_
        rw [mu_mu]
        exact ih (k + 1) (a + 1) (by omega) (by omega) (by have := sg_lt (μ := μ) (a := a) (by omega); omega) (by rw [← hR, skG_s, if_pos (by omega)])

set_option maxRecDepth 20000 in
theorem s_skipBlanks {μ : Mem} (h : RI μ) : SP mX7_skipBlanks [vr 64] μ (fun w m => w = un ∧ m = mu μ 64 2 (nB μ)) := by
  refine SP_intro (ls := [vr 64, un]) (by decide +kernel) rfl rfl (Nat.le_of_ble_eq_true rfl) rfl (fun X hX => ?_)
  have hl := RI_l h
  have h3 := h.2.2.1
  refine V_iconst (pc := 0) dX7_skipBlanks_0 ?_
  refine V_istore_1 (pc := 1) dX7_skipBlanks_1 (by decide) rfl ?_
  have e := l_skipBlanks h hX 400 0 (μ 64 2) (by omega) (by omega) h3 rfl
  rwa [mu_sv] at e

set_option maxRecDepth 20000 in
theorem l_skipWord {μ : Mem} (h : RI μ) {X : ZX} {R : Int} (hX : isM X (fun w m => w = un ∧ m = mu μ 64 2 R)) : ∀ (n : Nat) (k a : Int), (k + n = 400) → (0 ≤ k) → (0 ≤ a ∧ a ≤ μ 16 1) → (skG (lC (sg μ)) n a = R) → V X mX7_skipWord 2 [vr 64, vi k] [] (mu μ 64 2 a) := by
  intro n
  induction n with
  | zero =>
    intro k a h1 h0 h2 hR
    have hl := RI_l h
    have hs := sg_r h a
    refine V_iloadn (pc := 2) dX7_skipWord_2 rfl ?_
    refine V_sipush (pc := 3) dX7_skipWord_3 (by decide +kernel) ?_
    refine V_icmp_ge (pc := 6) (tgt := 42) dX7_skipWord_6 (by decide) (by omega) (by decide) (fun h6 => ?_) (fun h6 => ?_)
    · refine V_vret (x := 0) hX dX7_skipWord_42 rfl ?_
      exact ⟨rfl, by rw [← hR]; rfl⟩
    · exfalso; omega
  | succ n ih =>
    intro k a h1 h0 h2 hR
    have hl := RI_l h
    have hs := sg_r h a
    refine V_iloadn (pc := 2) dX7_skipWord_2 rfl ?_
    refine V_sipush (pc := 3) dX7_skipWord_3 (by decide +kernel) ?_
    refine V_icmp_ge (pc := 6) (tgt := 42) dX7_skipWord_6 (by decide) (by omega) (by decide) (fun h6 => ?_) (fun h6 => ?_)
    · exfalso; omega
    · refine V_aloadn (pc := 9) dX7_skipWord_9 rfl ?_
      refine V_getr (pc := 10) dX7_skipWord_10 fX7_15 zk_64 zr_64_0 ?_
      refine V_aloadn (pc := 13) dX7_skipWord_13 rfl ?_
      refine V_geti (r := 0) (pc := 14) dX7_skipWord_14 fX7_26 zk_64 ?_
      rw [mu_h]
      refine V_cv1 (pc := 17) dX7_skipWord_17 kX7_105 zk_16 (by decide) (Nat.le_of_ble_eq_true rfl) (s_sgn h.1 (by omega)) rfl ?_
      refine V_cs1 (pc := 20) dX7_skipWord_20 kX7_118 (by decide) (Nat.le_of_ble_eq_true rfl) (s_isLetter (by omega)) rfl ?_
      refine V_ifeq_b (pc := 23) (tgt := 42) dX7_skipWord_23 (by decide) (fun h23 => ?_) (fun h23 => ?_)
      · refine V_vret (x := 0) hX dX7_skipWord_42 rfl ?_
        exact ⟨rfl, by rw [← hR, skG_s, if_neg (by omega)]⟩
      · refine V_aloadn (pc := 26) dX7_skipWord_26 rfl ?_
        refine V_dup_r (pc := 27) dX7_skipWord_27 ?_
        refine V_geti (r := 0) (pc := 28) dX7_skipWord_28 fX7_26 zk_64 ?_
        rw [mu_h]
        refine V_iconst (pc := 31) dX7_skipWord_31 ?_
        refine V_iadd (pc := 32) dX7_skipWord_32 ?_
        refine V_puti (pc := 33) dX7_skipWord_33 fX7_26 zk_64 ?_
        refine V_iinc_1 (pc := 36) dX7_skipWord_36 (by decide) rfl ?_
        refine V_goto (pc := 39) (tgt := 2) dX7_skipWord_39 (by decide) ?_
        rw [mu_mu]
        exact ih (k + 1) (a + 1) (by omega) (by omega) (by have := sg_lt (μ := μ) (a := a) (by omega); omega) (by rw [← hR, skG_s, if_pos (by omega)])

set_option maxRecDepth 20000 in
theorem s_skipWord {μ : Mem} (h : RI μ) : SP mX7_skipWord [vr 64] μ (fun w m => w = un ∧ m = mu μ 64 2 (wE μ)) := by
  refine SP_intro (ls := [vr 64, un]) (by decide +kernel) rfl rfl (Nat.le_of_ble_eq_true rfl) rfl (fun X hX => ?_)
  have hl := RI_l h
  have h3 := h.2.2.1
  refine V_iconst (pc := 0) dX7_skipWord_0 ?_
  refine V_istore_1 (pc := 1) dX7_skipWord_1 (by decide) rfl ?_
  have e := l_skipWord h hX 400 0 (μ 64 2) (by omega) (by omega) h3 rfl
  rwa [mu_sv] at e

theorem s_isFig {μ : Mem} {k : Int} (hk : inR k) : SP mX7_isFigure [vi k] μ (fun w m => w = vi (bi (48 ≤ k ∧ k ≤ 57)) ∧ m = μ) := s_isFigure hk
def nM (μ : Mem) (l h : Int) : Mem := if nE μ = nB μ then blm (mu μ 64 2 (nE μ)) 1 (nB μ) else if 3 < nE μ - nB μ ∨ nV μ < l ∨ h < nV μ then blm (mu μ 64 2 (nE μ)) 2 (nB μ) else mu μ 64 2 (nE μ)
def eM (μ : Mem) : Mem := if sg μ (nB μ) = 59 then mu μ 64 2 (nB μ + 1) else blm (mu μ 64 2 (nB μ)) 1 (nB μ)

set_option maxRecDepth 20000 in
theorem l_number {μ : Mem} (h : RI μ) {X : ZX} {E U l g f : Int} (hK : ∀ k, V X mX7_readNumber 84 [vr 64, vi l, vi g, vi f, vi U, vi k] [] (mu μ 64 2 E)) : ∀ (n : Nat) (k a v : Int), (k + n = 400) → (0 ≤ k) → (0 ≤ a ∧ a ≤ μ 16 1) → (0 ≤ v ∧ v ≤ 1000) → (skG (dC (sg μ)) n a = E) → (cnv (sg μ) n a v = U) → V X mX7_readNumber 15 [vr 64, vi l, vi g, vi f, vi v, vi k] [] (mu μ 64 2 a) := by
  intro n
  induction n with
  | zero =>
    intro k a v h1 h0 h2 h3 hE hU
    have hl := RI_l h
    have hs := sg_r h a
    refine V_iload (pc := 15) dX7_readNumber_15 rfl ?_
    refine V_sipush (pc := 17) dX7_readNumber_17 (by decide +kernel) ?_
    refine V_icmp_ge (pc := 20) (tgt := 84) dX7_readNumber_20 (by decide) (by omega) (by decide) (fun h20 => ?_) (fun h20 => ?_)
    · have e := hK k
      rw [← hE, ← hU] at e
      exact e
    · exfalso; omega
  | succ n ih =>
    intro k a v h1 h0 h2 h3 hE hU
    have hl := RI_l h
    have hs := sg_r h a
    refine V_iload (pc := 15) dX7_readNumber_15 rfl ?_
    refine V_sipush (pc := 17) dX7_readNumber_17 (by decide +kernel) ?_
    refine V_icmp_ge (pc := 20) (tgt := 84) dX7_readNumber_20 (by decide) (by omega) (by decide) (fun h20 => ?_) (fun h20 => ?_)
    · exfalso; omega
    · refine V_aloadn (pc := 23) dX7_readNumber_23 rfl ?_
      refine V_getr (pc := 24) dX7_readNumber_24 fX7_15 zk_64 zr_64_0 ?_
      refine V_aloadn (pc := 27) dX7_readNumber_27 rfl ?_
      refine V_geti (r := 0) (pc := 28) dX7_readNumber_28 fX7_26 zk_64 ?_
      rw [mu_h]
      refine V_cv1 (pc := 31) dX7_readNumber_31 kX7_105 zk_16 (by decide) (Nat.le_of_ble_eq_true rfl) (s_sgn h.1 (by omega)) rfl ?_
      refine V_cs1 (pc := 34) dX7_readNumber_34 kX7_109 (by decide) (Nat.le_of_ble_eq_true rfl) (s_isFigure (by omega)) rfl ?_
      refine V_ifeq_b (pc := 37) (tgt := 84) dX7_readNumber_37 (by decide) (fun h37 => ?_) (fun h37 => ?_)
      · have e := hK k
        rw [← hE, ← hU, skG_s, cnv_s, if_neg (by omega), if_neg (by omega)] at e
        exact e
      · refine V_sipush (pc := 40) dX7_readNumber_40 (by decide +kernel) ?_
        refine V_iload (pc := 43) dX7_readNumber_43 rfl ?_
        refine V_bipush (pc := 45) dX7_readNumber_45 (by decide +kernel) ?_
        refine V_imul (pc := 47) dX7_readNumber_47 ?_
        refine V_aloadn (pc := 48) dX7_readNumber_48 rfl ?_
        refine V_getr (pc := 49) dX7_readNumber_49 fX7_15 zk_64 zr_64_0 ?_
        refine V_aloadn (pc := 52) dX7_readNumber_52 rfl ?_
        refine V_geti (r := 0) (pc := 53) dX7_readNumber_53 fX7_26 zk_64 ?_
        rw [mu_h]
        refine V_cv1 (pc := 56) dX7_readNumber_56 kX7_105 zk_16 (by decide) (Nat.le_of_ble_eq_true rfl) (s_sgn h.1 (by omega)) rfl ?_
        refine V_iadd (pc := 59) dX7_readNumber_59 ?_
        refine V_bipush (pc := 60) dX7_readNumber_60 (by decide +kernel) ?_
        refine V_isub (pc := 62) dX7_readNumber_62 ?_
        refine V_cs2 (pc := 63) dX7_readNumber_63 kX7_113 (by decide) (Nat.le_of_ble_eq_true rfl) (s_min (by decide) (by omega)) rfl ?_
        refine V_istore_4 (pc := 66) dX7_readNumber_66 (by decide) rfl ?_
        refine V_aloadn (pc := 68) dX7_readNumber_68 rfl ?_
        refine V_dup_r (pc := 69) dX7_readNumber_69 ?_
        refine V_geti (r := 0) (pc := 70) dX7_readNumber_70 fX7_26 zk_64 ?_
        rw [mu_h]
        refine V_iconst (pc := 73) dX7_readNumber_73 ?_
        refine V_iadd (pc := 74) dX7_readNumber_74 ?_
        refine V_puti (pc := 75) dX7_readNumber_75 fX7_26 zk_64 ?_
        refine V_iinc_5 (pc := 78) dX7_readNumber_78 (by decide) rfl ?_
        refine V_goto (pc := 81) (tgt := 15) dX7_readNumber_81 (by decide) ?_
        rw [mu_mu]
        exact ih (k + 1) (a + 1) (min 1000 (v * 10 + sg μ a - 48)) (by omega) (by omega) (by have := sg_lt (μ := μ) (a := a) (by omega); omega) (by omega) (by rw [← hE, skG_s, if_pos (by omega)]) (by rw [← hU, cnv_s, if_pos (by omega)])

set_option maxRecDepth 20000 in
theorem s_readNumber {μ : Mem} (h : RI μ) {l g : Int} (hl0 : inR l) (hg0 : inR g) : SP mX7_readNumber [vr 64, vi l, vi g] μ (fun w m => w = vi (nV μ) ∧ m = nM μ l g) := by
  refine SP_intro (ls := [vr 64, vi l, vi g, un, un, un]) (by decide +kernel) rfl rfl (Nat.le_of_ble_eq_true rfl) rfl (fun X hX => ?_)
  have hl := RI_l h
  have h3 := h.2.2.1
  have h4 := nB_rg h
  have h5 := nE_rg h
  have h6 := nV_rg μ
  have hE := RI_2 h (x := nE μ) (by omega)
  refine V_aloadn (pc := 0) dX7_readNumber_0 rfl ?_
  refine V_cu0 (pc := 1) dX7_readNumber_1 kX7_34 zk_64 (by decide) (Nat.le_of_ble_eq_true rfl) (s_skipBlanks h) ?_
  refine V_aloadn (pc := 4) dX7_readNumber_4 rfl ?_
  refine V_geti (r := 0) (pc := 5) dX7_readNumber_5 fX7_26 zk_64 ?_
  rw [mu_h]
  refine V_istore_3 (pc := 8) dX7_readNumber_8 (by decide) rfl ?_
  refine V_iconst (pc := 9) dX7_readNumber_9 ?_
  refine V_istore_4 (pc := 10) dX7_readNumber_10 (by decide) rfl ?_
  refine V_iconst (pc := 12) dX7_readNumber_12 ?_
  refine V_istore_5 (pc := 13) dX7_readNumber_13 (by decide) rfl ?_
  refine l_number h (E := nE μ) (U := nV μ) (fun k => ?_) 400 0 (nB μ) 0 (by omega) (by omega) (by omega) (by omega) rfl rfl
  refine V_aloadn (pc := 84) dX7_readNumber_84 rfl ?_
  refine V_geti (r := 0) (pc := 85) dX7_readNumber_85 fX7_26 zk_64 ?_
  rw [mu_h]
  refine V_iloadn (pc := 88) dX7_readNumber_88 rfl ?_
  refine V_icmp_ne (pc := 89) (tgt := 101) dX7_readNumber_89 (by decide) (by omega) (by omega) (fun h89 => ?_) (fun h89 => ?_)
  · refine V_aloadn (pc := 101) dX7_readNumber_101 rfl ?_
    refine V_geti (r := 0) (pc := 102) dX7_readNumber_102 fX7_26 zk_64 ?_
    rw [mu_h]
    refine V_iloadn (pc := 105) dX7_readNumber_105 rfl ?_
    refine V_isub (pc := 106) dX7_readNumber_106 ?_
    refine V_iconst (pc := 107) dX7_readNumber_107 ?_
    refine V_icmp_gt (pc := 108) (tgt := 123) dX7_readNumber_108 (by decide) (by omega) (by decide) (fun h108 => ?_) (fun h108 => ?_)
    · refine V_aloadn (pc := 123) dX7_readNumber_123 rfl ?_
      refine V_iconst (pc := 124) dX7_readNumber_124 ?_
      refine V_iloadn (pc := 125) dX7_readNumber_125 rfl ?_
      refine V_cu2 (pc := 126) dX7_readNumber_126 kX7_74 zk_64 (by decide) (Nat.le_of_ble_eq_true rfl) (s_blm hE) ?_
      refine V_iload (pc := 129) dX7_readNumber_129 rfl ?_
      refine V_iret hX dX7_readNumber_131 rfl ?_
      exact ⟨rfl, by unfold nM; repeat (first | rw [if_pos (by omega)] | rw [if_neg (by omega)])⟩
    · refine V_iload (pc := 111) dX7_readNumber_111 rfl ?_
      refine V_iloadn (pc := 113) dX7_readNumber_113 rfl ?_
      refine V_icmp_lt (pc := 114) (tgt := 123) dX7_readNumber_114 (by decide) (by omega) (by omega) (fun h114 => ?_) (fun h114 => ?_)
      · refine V_aloadn (pc := 123) dX7_readNumber_123 rfl ?_
        refine V_iconst (pc := 124) dX7_readNumber_124 ?_
        refine V_iloadn (pc := 125) dX7_readNumber_125 rfl ?_
        refine V_cu2 (pc := 126) dX7_readNumber_126 kX7_74 zk_64 (by decide) (Nat.le_of_ble_eq_true rfl) (s_blm hE) ?_
        refine V_iload (pc := 129) dX7_readNumber_129 rfl ?_
        refine V_iret hX dX7_readNumber_131 rfl ?_
        exact ⟨rfl, by unfold nM; repeat (first | rw [if_pos (by omega)] | rw [if_neg (by omega)])⟩
      · refine V_iload (pc := 117) dX7_readNumber_117 rfl ?_
        refine V_iloadn (pc := 119) dX7_readNumber_119 rfl ?_
        refine V_icmp_le (pc := 120) (tgt := 129) dX7_readNumber_120 (by decide) (by omega) (by omega) (fun h120 => ?_) (fun h120 => ?_)
        · refine V_iload (pc := 129) dX7_readNumber_129 rfl ?_
          refine V_iret hX dX7_readNumber_131 rfl ?_
          exact ⟨rfl, by unfold nM; repeat (first | rw [if_pos (by omega)] | rw [if_neg (by omega)])⟩
        · refine V_aloadn (pc := 123) dX7_readNumber_123 rfl ?_
          refine V_iconst (pc := 124) dX7_readNumber_124 ?_
          refine V_iloadn (pc := 125) dX7_readNumber_125 rfl ?_
          refine V_cu2 (pc := 126) dX7_readNumber_126 kX7_74 zk_64 (by decide) (Nat.le_of_ble_eq_true rfl) (s_blm hE) ?_
          refine V_iload (pc := 129) dX7_readNumber_129 rfl ?_
          refine V_iret hX dX7_readNumber_131 rfl ?_
          exact ⟨rfl, by unfold nM; repeat (first | rw [if_pos (by omega)] | rw [if_neg (by omega)])⟩
  · refine V_aloadn (pc := 92) dX7_readNumber_92 rfl ?_
    refine V_iconst (pc := 93) dX7_readNumber_93 ?_
    refine V_iloadn (pc := 94) dX7_readNumber_94 rfl ?_
    refine V_cu2 (pc := 95) dX7_readNumber_95 kX7_74 zk_64 (by decide) (Nat.le_of_ble_eq_true rfl) (s_blm hE) ?_
    refine V_goto (pc := 98) (tgt := 129) dX7_readNumber_98 (by decide) ?_
    refine V_iload (pc := 129) dX7_readNumber_129 rfl ?_
    refine V_iret hX dX7_readNumber_131 rfl ?_
    exact ⟨rfl, by unfold nM; repeat (first | rw [if_pos (by omega)] | rw [if_neg (by omega)])⟩

set_option maxRecDepth 20000 in
theorem s_readEnd {μ : Mem} (h : RI μ) : SP mX7_readEnd [vr 64] μ (fun w m => w = un ∧ m = eM μ) := by
  refine SP_intro (ls := [vr 64]) (by decide +kernel) rfl rfl (Nat.le_of_ble_eq_true rfl) rfl (fun X hX => ?_)
  have hl := RI_l h
  have h3 := h.2.2.1
  have h4 := nB_rg h
  have hs := sg_r h (nB μ)
  have hE := RI_2 h (x := nB μ) (by omega)
  refine V_aloadn (pc := 0) dX7_readEnd_0 rfl ?_
  refine V_cu0 (pc := 1) dX7_readEnd_1 kX7_34 zk_64 (by decide) (Nat.le_of_ble_eq_true rfl) (s_skipBlanks h) ?_
  refine V_aloadn (pc := 4) dX7_readEnd_4 rfl ?_
  refine V_getr (pc := 5) dX7_readEnd_5 fX7_15 zk_64 zr_64_0 ?_
  refine V_aloadn (pc := 8) dX7_readEnd_8 rfl ?_
  refine V_geti (r := 0) (pc := 9) dX7_readEnd_9 fX7_26 zk_64 ?_
  rw [mu_h]
  refine V_cv1 (pc := 12) dX7_readEnd_12 kX7_105 zk_16 (by decide) (Nat.le_of_ble_eq_true rfl) (s_sgn h.1 (by omega)) rfl ?_
  refine V_bipush (pc := 15) dX7_readEnd_15 (by decide +kernel) ?_
  refine V_icmp_ne (pc := 17) (tgt := 33) dX7_readEnd_17 (by decide) (by omega) (by decide) (fun h17 => ?_) (fun h17 => ?_)
  · refine V_aloadn (pc := 33) dX7_readEnd_33 rfl ?_
    refine V_iconst (pc := 34) dX7_readEnd_34 ?_
    refine V_aloadn (pc := 35) dX7_readEnd_35 rfl ?_
    refine V_geti (r := 0) (pc := 36) dX7_readEnd_36 fX7_26 zk_64 ?_
    rw [mu_h]
    refine V_cu2 (pc := 39) dX7_readEnd_39 kX7_74 zk_64 (by decide) (Nat.le_of_ble_eq_true rfl) (s_blm hE) ?_
    refine V_vret (x := 0) hX dX7_readEnd_42 rfl ?_
    exact ⟨rfl, by unfold eM; first | (rw [if_pos (by omega)]; exact mu_mu) | rw [if_neg (by omega)]⟩
  · refine V_aloadn (pc := 20) dX7_readEnd_20 rfl ?_
    refine V_dup_r (pc := 21) dX7_readEnd_21 ?_
    refine V_geti (r := 0) (pc := 22) dX7_readEnd_22 fX7_26 zk_64 ?_
    rw [mu_h]
    refine V_iconst (pc := 25) dX7_readEnd_25 ?_
    refine V_iadd (pc := 26) dX7_readEnd_26 ?_
    refine V_puti (pc := 27) dX7_readEnd_27 fX7_26 zk_64 ?_
    refine V_goto (pc := 30) (tgt := 42) dX7_readEnd_30 (by decide) ?_
    refine V_vret (x := 0) hX dX7_readEnd_42 rfl ?_
    exact ⟨rfl, by unfold eM; first | (rw [if_pos (by omega)]; exact mu_mu) | rw [if_neg (by omega)]⟩

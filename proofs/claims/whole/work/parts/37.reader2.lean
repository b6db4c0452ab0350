theorem nM_c {μ : Mem} {l g : Int} {c : Nat} (h : c ≠ 64) : nM μ l g c = μ c := by
  unfold nM
  split
  · rw [blm_c h, mu_ne h]
  · split
    · rw [blm_c h, mu_ne h]
    · rw [mu_ne h]
theorem eM_c {μ : Mem} {c : Nat} (h : c ≠ 64) : eM μ c = μ c := by
  unfold eM
  split
  · rw [mu_ne h]
  · rw [blm_c h, mu_ne h]
theorem RI_nM {μ : Mem} (h : RI μ) (l g : Int) : RI (nM μ l g) := by
  have h4 := nB_rg h
  have h5 := nE_rg h
  have h3 := h.2.2.1
  unfold nM
  split
  · exact RI_b (RI_2 h (by omega)) (by decide)
  · split
    · exact RI_b (RI_2 h (by omega)) (by decide)
    · exact RI_2 h (by omega)
theorem RI_eM {μ : Mem} (h : RI μ) : RI (eM μ) := by
  have h4 := nB_rg h
  have h3 := h.2.2.1
  unfold eM
  split
  · rename_i hs
    have := sg_lt (μ := μ) (a := nB μ) (by omega)
    exact RI_2 h (by omega)
  · exact RI_b (RI_2 h (by omega)) (by decide)
def skM (μ : Mem) : Mem := mu μ 64 2 (nB μ)
theorem RI_sk {μ : Mem} (h : RI μ) : RI (skM μ) := by
  have h4 := nB_rg h
  have h3 := h.2.2.1
  exact RI_2 h (by omega)
theorem skM_c {μ : Mem} {c : Nat} (h : c ≠ 64) : skM μ c = μ c := mu_ne h
theorem skM_3 {μ : Mem} : skM μ 64 3 = μ 64 3 := mu_j (by decide)
theorem skM_4 {μ : Mem} : skM μ 64 4 = μ 64 4 := mu_j (by decide)
theorem skM_2 {μ : Mem} : skM μ 64 2 = nB μ := mu_h
theorem s_skip {μ : Mem} (h : RI μ) : SP mX7_skipBlanks [vr 64] μ (fun w m => w = un ∧ m = skM μ) := s_skipBlanks h
theorem nM_k {μ : Mem} {l g : Int} (h : nM μ l g 64 3 = 0) : μ 64 3 = 0 ∧ ¬ nE μ = nB μ ∧ nE μ - nB μ ≤ 3 ∧ l ≤ nV μ ∧ nV μ ≤ g := by
  unfold nM at h
  split at h
  · rw [blm_3, mu_j (by decide)] at h
    split at h <;> omega
  · split at h
    · rw [blm_3, mu_j (by decide)] at h
      split at h <;> omega
    · rw [mu_j (by decide)] at h
      omega
theorem eM_k {μ : Mem} (h : eM μ 64 3 = 0) : μ 64 3 = 0 := by
  unfold eM at h
  split at h
  · rw [mu_j (by decide)] at h; exact h
  · rw [blm_3, mu_j (by decide)] at h
    split at h <;> omega
theorem sg_nM {μ : Mem} {l g : Int} : sg (nM μ l g) = sg μ := by
  funext x
  simp only [sg, nM_c (show (16 : Nat) ≠ 64 by decide), nM_c (show (17 : Nat) ≠ 64 by decide)]
theorem sg_eM {μ : Mem} : sg (eM μ) = sg μ := by
  funext x
  simp only [sg, eM_c (show (16 : Nat) ≠ 64 by decide), eM_c (show (17 : Nat) ≠ 64 by decide)]
/-- the land's draft, and the miles of its roads -/
def DL (μ : Mem) : Prop := ∀ r : Nat, (r : Int) < μ 48 1 → 0 ≤ μ (48 + 6) r ∧ μ (48 + 6) r ≤ 99
theorem DL_gLn {μ : Mem} (h : DL μ) (r : Int) : 0 ≤ gLn μ 48 r ∧ gLn μ 48 r ≤ 99 := by
  unfold gLn
  split
  · exact h r.toNat (by omega)
  · decide
theorem RI_l48 {μ : Mem} (h : RI μ) : LOK μ 48 := h.2.2.2.2
/-- a memory that differs in the draft alone -/
theorem RI_d {μ m : Mem} (h : RI μ) (hc : m 64 = μ 64) (h16 : m 16 = μ 16) (h17 : m 17 = μ 17) (hL : LOK m 48) : RI m := by
  obtain ⟨h1, h2, h3, h4, h5⟩ := h
  refine ⟨?_, ?_, ?_, ?_, hL⟩
  · unfold TOK at h1 ⊢; rw [h16]; exact h1
  · intro i; rw [h17]; exact h2 i
  · rw [hc, h16]; exact h3
  · rw [hc]; exact h4
theorem LOK_p {μ : Mem} (h : LOK μ 48) {n : Int} (hn : 0 ≤ n ∧ n ≤ 9) : LOK (mu μ 48 0 n) 48 := by
  obtain ⟨h1, h2, h3, h4, h5⟩ := h
  refine ⟨?_, ?_, ?_, ?_, ?_⟩
  · rw [mu_h]; exact hn
  · rw [mu_j (by decide)]; exact h2
  · rw [mu_j (by decide)]; exact h3
  · intro p; rw [mu_c (by decide)]; exact h4 p
  · intro k j a b; rw [mu_c (by omega)]; exact h5 k j a b
theorem LOK_ar {μ : Mem} {c j : Nat} {v : Int} (h : LOK μ 48) (hc : 4 ≤ c ∧ c ≤ 13) (hc2 : c ≠ 10) (hv : inR v) : LOK (mu μ (48 + c) j v) 48 := by
  obtain ⟨h1, h2, h3, h4, h5⟩ := h
  refine ⟨?_, ?_, ?_, ?_, ?_⟩
  · rw [mu_c (by omega)]; exact h1
  · rw [mu_c (by omega)]; exact h2
  · rw [mu_c (by omega)]; exact h3
  · intro p; rw [mu_c (by omega)]; exact h4 p
  · intro k i a b
    rw [mu_ap]
    split
    · exact hv
    · exact h5 k i a b
theorem LOK_s {μ : Mem} {j : Nat} {v : Int} (h : LOK μ 48) (hv : 0 ≤ v ∧ v ≤ 5) : LOK (mu μ (48 + 10) j v) 48 := by
  obtain ⟨h1, h2, h3, h4, h5⟩ := h
  refine ⟨?_, ?_, ?_, ?_, ?_⟩
  · rw [mu_c (by omega)]; exact h1
  · rw [mu_c (by omega)]; exact h2
  · rw [mu_c (by omega)]; exact h3
  · intro p
    rw [mu_ap]
    split
    · exact hv
    · exact h4 p
  · intro k i a b
    rw [mu_ap]
    split
    · exact ⟨by omega, by omega⟩
    · exact h5 k i a b
theorem LOK_n {μ : Mem} {j : Nat} {v : Int} (h : LOK μ 48) (hj : (j = 1 ∧ 0 ≤ v ∧ v ≤ 14) ∨ (j = 2 ∧ 0 ≤ v ∧ v ≤ 20)) : LOK (mu μ 48 j v) 48 := by
  obtain ⟨h1, h2, h3, h4, h5⟩ := h
  refine ⟨?_, ?_, ?_, ?_, ?_⟩
  · rw [mu_j (by omega)]; exact h1
  · rw [mu_ap]; split <;> omega
  · rw [mu_ap]; split <;> omega
  · intro p; rw [mu_c (by omega)]; exact h4 p
  · intro k i a b; rw [mu_c (by omega)]; exact h5 k i a b
theorem LOK_aSd {μ : Mem} (h : LOK μ 48) {p r : Int} (hr : inR r) (hp : μ (48 + 10) p.toNat < 5) : LOK (aSide μ 48 p r) 48 := by
  unfold aSide
  have h4 := h.2.2.2.1 p.toNat
  exact LOK_s (LOK_ar h (c := 11) (by decide) (by decide) hr) (by omega)
theorem LOK_aRoad {μ : Mem} (h : LOK μ 48) {a b k : Int} (ha : 0 ≤ a ∧ a < 9) (hb : 0 ≤ b ∧ b < 9) (hk : inR k) (hR : μ 48 1 < 14) (hab : ¬ a = b) (hsa : μ (48 + 10) a.toNat < 5) (hsb : μ (48 + 10) b.toNat < 5) : LOK (aRoad μ 48 a b k) 48 := by
  unfold aRoad
  have h1 := h.2.1
  have e1 := LOK_ar (j := (μ 48 1).toNat) (v := k) (LOK_ar (j := (μ 48 1).toNat) (v := b) (LOK_ar (j := (μ 48 1).toNat) (v := a) h (c := 4) (by decide) (by decide) ⟨by omega, by omega⟩) (c := 5) (by decide) (by decide) ⟨by omega, by omega⟩) (c := 6) (by decide) (by decide) hk
  refine LOK_n (LOK_aSd (LOK_aSd e1 ⟨by omega, by omega⟩ ?_) ⟨by omega, by omega⟩ ?_) (Or.inl ⟨rfl, by omega, by omega⟩)
  · rw [mu_c (by omega), mu_c (by omega), mu_c (by omega)]; exact hsa
  · unfold aSide
    rw [mu_j (by omega), mu_c (by omega), mu_c (by omega), mu_c (by omega), mu_c (by omega)]; exact hsb
theorem LOK_aTrav {μ : Mem} (h : LOK μ 48) {a b k : Int} (ha : inR a) (hb : inR b) (hk : inR k) (hR : μ 48 2 < 20) : LOK (aTrav μ 48 a b k) 48 := by
  unfold aTrav
  have h1 := h.2.2.1
  exact LOK_n (LOK_ar (LOK_ar (LOK_ar h (c := 7) (by decide) (by decide) ha) (c := 8) (by decide) (by decide) hb) (c := 9) (by decide) (by decide) hk) (Or.inr ⟨rfl, by omega, by omega⟩)
theorem aRoad_c {μ : Mem} {a b k : Int} {c : Nat} (h : c < 48 ∨ 59 < c) : aRoad μ 48 a b k c = μ c := by
  unfold aRoad aSide
  rw [mu_ne (by omega), mu_ne (by omega), mu_ne (by omega), mu_ne (by omega), mu_ne (by omega), mu_ne (by omega), mu_ne (by omega), mu_ne (by omega)]
theorem aTrav_c {μ : Mem} {a b k : Int} {c : Nat} (h : c < 48 ∨ 57 < c) : aTrav μ 48 a b k c = μ c := by
  unfold aTrav
  rw [mu_ne (by omega), mu_ne (by omega), mu_ne (by omega), mu_ne (by omega)]
/-- two places may be joined by a new road -/
abbrev mJn (μ : Mem) (a b : Int) : Prop := ¬ a = b ∧ (∀ r : Nat, r < (μ 48 1).toNat → ¬ jn μ 48 a b r) ∧ gSd μ 48 a < 5 ∧ gSd μ 48 b < 5
def rPl (μ : Mem) (f : Int) : Mem := if 0 < μ 48 0 then blm μ 3 f else if eM (nM μ 1 9) 64 3 = 0 then mu (eM (nM μ 1 9)) 48 0 (nV μ) else eM (nM μ 1 9)
def rdT (μ : Mem) (a b : Int) : Mem := if eM (nM μ 1 99) 64 3 = 0 then aRoad (eM (nM μ 1 99)) 48 a b (nV μ) else eM (nM μ 1 99)
def rdG (μ : Mem) (a b : Int) : Mem := if eM (nM μ 1 99) 64 3 = 0 then aTrav (eM (nM μ 1 99)) 48 a b (nV μ) else eM (nM μ 1 99)
def r1 (μ : Mem) : Mem := nM μ 0 (μ 48 0 - 1)
def r2 (μ : Mem) : Mem := skM (r1 μ)
def r3 (μ : Mem) : Mem := nM (r2 μ) 0 (r2 μ 48 0 - 1)
def r4 (μ : Mem) : Mem := if r3 μ 64 3 = 0 ∧ ¬ mJn (r3 μ) (nV μ) (nV (r2 μ)) then blm (r3 μ) 4 (nB (r1 μ)) else r3 μ
def r5 (μ : Mem) : Mem := if nV μ = nV (r2 μ) then blm (r3 μ) 4 (nB (r1 μ)) else r3 μ
def rRd (μ : Mem) (f : Int) : Mem := if 14 ≤ μ 48 1 then blm μ 3 f else rdT (r4 μ) (nV μ) (nV (r2 μ))
def rTv (μ : Mem) (f : Int) : Mem := if 20 ≤ μ 48 2 then blm μ 3 f else rdG (r5 μ) (nV μ) (nV (r2 μ))
theorem RI_r1 {μ : Mem} (h : RI μ) : RI (r1 μ) := RI_nM h _ _
theorem RI_r2 {μ : Mem} (h : RI μ) : RI (r2 μ) := RI_sk (RI_r1 h)
theorem RI_r3 {μ : Mem} (h : RI μ) : RI (r3 μ) := RI_nM (RI_r2 h) _ _
theorem r1_c {μ : Mem} {c : Nat} (h : c ≠ 64) : r1 μ c = μ c := nM_c h
theorem r2_c {μ : Mem} {c : Nat} (h : c ≠ 64) : r2 μ c = μ c := (skM_c h).trans (r1_c h)
theorem r2_2 {μ : Mem} : r2 μ 64 2 = nB (r1 μ) := skM_2
theorem r2_3 {μ : Mem} : r2 μ 64 3 = r1 μ 64 3 := skM_3
theorem s_n1 {μ : Mem} (h : RI μ) : SP mX7_readNumber [vr 64, vi 0, vi (μ 48 0 - 1)] μ (fun w m => w = vi (nV μ) ∧ m = r1 μ) := s_readNumber h (by decide) (by have := (RI_l48 h).1; omega)
theorem s_n2 {μ : Mem} (h : RI μ) : SP mX7_skipBlanks [vr 64] (r1 μ) (fun w m => w = un ∧ m = r2 μ) := s_skip (RI_r1 h)
theorem s_n3 {μ : Mem} (h : RI μ) : SP mX7_readNumber [vr 64, vi 0, vi (r2 μ 48 0 - 1)] (r2 μ) (fun w m => w = vi (nV (r2 μ)) ∧ m = r3 μ) := s_readNumber (RI_r2 h) (by decide) (by have := (RI_l48 (RI_r2 h)).1; omega)
theorem RI_r4 {μ : Mem} (h : RI μ) : RI (r4 μ) := by
  unfold r4
  split
  · exact RI_b (RI_r3 h) (by decide)
  · exact RI_r3 h
theorem RI_r5 {μ : Mem} (h : RI μ) : RI (r5 μ) := by
  unfold r5
  split
  · exact RI_b (RI_r3 h) (by decide)
  · exact RI_r3 h
theorem r3_c {μ : Mem} {c : Nat} (h : c ≠ 64) : r3 μ c = μ c := (nM_c h).trans (r2_c h)
theorem r4_c {μ : Mem} {c : Nat} (h : c ≠ 64) : r4 μ c = μ c := by
  unfold r4
  split
  · rw [blm_c h, r3_c h]
  · exact r3_c h
theorem r5_c {μ : Mem} {c : Nat} (h : c ≠ 64) : r5 μ c = μ c := by
  unfold r5
  split
  · rw [blm_c h, r3_c h]
  · exact r3_c h
theorem r3_k {μ : Mem} (h : r3 μ 64 3 = 0) : μ 64 3 = 0 ∧ (0 ≤ nV μ ∧ nV μ < μ 48 0) ∧ (0 ≤ nV (r2 μ) ∧ nV (r2 μ) < μ 48 0) := by
  obtain ⟨h1, h2, h3, h4, h5⟩ := nM_k h
  rw [r2_3] at h1
  obtain ⟨g1, g2, g3, g4, g5⟩ := nM_k h1
  rw [r2_c (by decide)] at h5
  exact ⟨g1, by omega, by omega⟩
theorem r4_k {μ : Mem} (h : r4 μ 64 3 = 0) : r3 μ 64 3 = 0 ∧ mJn (r3 μ) (nV μ) (nV (r2 μ)) := by
  unfold r4 at h
  split at h
  · rename_i hc
    rw [blm_3, if_pos hc.1] at h
    omega
  · rename_i hc
    exact ⟨h, Decidable.byContradiction fun q => hc ⟨h, q⟩⟩
theorem r5_k {μ : Mem} (h : r5 μ 64 3 = 0) : r3 μ 64 3 = 0 ∧ ¬ nV μ = nV (r2 μ) := by
  unfold r5 at h
  split at h
  · rw [blm_3] at h
    split at h <;> omega
  · rename_i hc
    exact ⟨h, hc⟩
theorem gSd_48 {μ : Mem} {p : Int} (hp : 0 ≤ p ∧ p < μ 48 0) : gSd μ 48 p = μ (48 + 10) p.toNat := by
  unfold gSd; rw [if_pos hp]
/-- what a new road needs -/
def rOk (μ : Mem) (a b : Int) : Prop := μ 48 1 < 14 ∧ (0 ≤ a ∧ a < μ 48 0) ∧ (0 ≤ b ∧ b < μ 48 0) ∧ ¬ a = b ∧ μ (48 + 10) a.toNat < 5 ∧ μ (48 + 10) b.toNat < 5
theorem rOk_c {μ m : Mem} {a b : Int} (h0 : m 48 = μ 48) (h1 : m (48 + 10) = μ (48 + 10)) (h : rOk μ a b) : rOk m a b := by
  unfold rOk at h ⊢; rw [h0, h1]; exact h
theorem r4_ok {μ : Mem} (hR : ¬ 14 ≤ μ 48 1) (h : r4 μ 64 3 = 0) : rOk (r4 μ) (nV μ) (nV (r2 μ)) := by
  obtain ⟨h1, h2⟩ := r4_k h
  obtain ⟨g1, g2, g3⟩ := r3_k h1
  obtain ⟨j1, j2, j3, j4⟩ := h2
  rw [gSd_48 (by rw [r3_c (by decide)]; exact g2)] at j3
  rw [gSd_48 (by rw [r3_c (by decide)]; exact g3)] at j4
  rw [r3_c (by decide)] at j3 j4
  refine rOk_c (r4_c (by decide)) (r4_c (by decide)) ⟨by omega, g2, g3, j1, j3, j4⟩
theorem RI_rdT {μ : Mem} (h : RI μ) {a b : Int} (hv : μ 64 3 = 0 → rOk μ a b) : RI (rdT μ a b) := by
  unfold rdT
  have hE := RI_eM (RI_nM h 1 99)
  split
  · rename_i hk
    obtain ⟨k1, k2, k3, k4, k5, k6⟩ := rOk_c (m := eM (nM μ 1 99)) (by rw [eM_c (by decide), nM_c (by decide)]) (by rw [eM_c (by decide), nM_c (by decide)]) (hv (nM_k (eM_k hk)).1)
    have hv := nV_rg μ
    have hp := (RI_l48 hE).1
    exact RI_d hE (aRoad_c (by decide)) (aRoad_c (by decide)) (aRoad_c (by decide)) (LOK_aRoad (RI_l48 hE) (by omega) (by omega) ⟨by omega, by omega⟩ k1 k4 k5 k6)
  · exact hE
theorem RI_rdG {μ : Mem} (h : RI μ) {a b : Int} (ha : inR a) (hb : inR b) (hv : μ 48 2 < 20) : RI (rdG μ a b) := by
  unfold rdG
  have hE := RI_eM (RI_nM h 1 99)
  split
  · have hv2 := nV_rg μ
    exact RI_d hE (aTrav_c (by decide)) (aTrav_c (by decide)) (aTrav_c (by decide)) (LOK_aTrav (RI_l48 hE) ha hb ⟨by omega, by omega⟩ (by rw [eM_c (by decide), nM_c (by decide)]; exact hv))
  · exact hE
theorem RI_rPl {μ : Mem} (h : RI μ) {f : Int} : RI (rPl μ f) := by
  unfold rPl
  have hE := RI_eM (RI_nM h 1 9)
  split
  · exact RI_b h (by decide)
  · split
    · rename_i hk
      have := nM_k (eM_k hk)
      exact RI_d hE (mu_ne (by decide)) (mu_ne (by decide)) (mu_ne (by decide)) (LOK_p (RI_l48 hE) (by omega))
    · exact hE
theorem RI_rRd {μ : Mem} (h : RI μ) {f : Int} : RI (rRd μ f) := by
  unfold rRd
  split
  · exact RI_b h (by decide)
  · rename_i hR
    exact RI_rdT (RI_r4 h) (r4_ok hR)
theorem RI_rTv {μ : Mem} (h : RI μ) {f : Int} : RI (rTv μ f) := by
  unfold rTv
  split
  · exact RI_b h (by decide)
  · have h1 := nV_rg μ
    have h2 := nV_rg (r2 μ)
    exact RI_rdG (RI_r5 h) ⟨by omega, by omega⟩ ⟨by omega, by omega⟩ (by rw [r5_c (by decide)]; omega)

set_option maxRecDepth 20000 in
theorem s_readPlaces {μ : Mem} (h : RI μ) {f : Int} : SP mX7_readPlaces [vr 64, vi f] μ (fun w m => w = un ∧ m = rPl μ f) := by
  refine SP_intro (ls := [vr 64, vi f, un]) (by decide +kernel) rfl rfl (Nat.le_of_ble_eq_true rfl) rfl (fun X hX => ?_)
  have h1 := RI_nM h 1 9
  have h2 := RI_eM h1
  have hk := h2.2.2.2.1
  have hp := (RI_l48 h).1
  refine V_aloadn (pc := 0) dX7_readPlaces_0 rfl ?_
  refine V_getr (pc := 1) dX7_readPlaces_1 fX7_19 zk_64 zr_64_1 ?_
  refine V_cv0 (pc := 4) dX7_readPlaces_4 kX7_62 zk_48 (by decide) (Nat.le_of_ble_eq_true rfl) (s_places LandAt_48) rfl ?_
  refine V_if_le (pc := 7) (tgt := 17) dX7_readPlaces_7 (by decide) (by omega) (fun h7 => ?_) (fun h7 => ?_)
  · refine V_aloadn (pc := 17) dX7_readPlaces_17 rfl ?_
    refine V_iconst (pc := 18) dX7_readPlaces_18 ?_
    refine V_bipush (pc := 19) dX7_readPlaces_19 (by decide +kernel) ?_
    refine V_cv2 (pc := 21) dX7_readPlaces_21 kX7_78 zk_64 (by decide) (Nat.le_of_ble_eq_true rfl) (s_readNumber h (by decide) (by decide)) rfl ?_
    refine V_istore_2 (pc := 24) dX7_readPlaces_24 (by decide) rfl ?_
    refine V_aloadn (pc := 25) dX7_readPlaces_25 rfl ?_
    refine V_cu0 (pc := 26) dX7_readPlaces_26 kX7_82 zk_64 (by decide) (Nat.le_of_ble_eq_true rfl) (s_readEnd h1) ?_
    refine V_aloadn (pc := 29) dX7_readPlaces_29 rfl ?_
    refine V_geti (r := 0) (pc := 30) dX7_readPlaces_30 fX7_23 zk_64 ?_
    refine V_if_ne (pc := 33) (tgt := 44) dX7_readPlaces_33 (by decide) (by omega) (fun h33 => ?_) (fun h33 => ?_)
    · refine V_vret (x := 0) hX dX7_readPlaces_44 rfl ?_
      exact ⟨rfl, by unfold rPl; repeat (first | rw [if_pos (by omega)] | rw [if_neg (by omega)])⟩
    · refine V_aloadn (pc := 36) dX7_readPlaces_36 rfl ?_
      refine V_getr (pc := 37) dX7_readPlaces_37 fX7_19 zk_64 zr_64_1 ?_
      refine V_iloadn (pc := 40) dX7_readPlaces_40 rfl ?_
      refine V_cu1 (pc := 41) dX7_readPlaces_41 kX7_85 zk_48 (by decide) (Nat.le_of_ble_eq_true rfl) (s_setPlaces LandAt_48 (by have := nM_k (eM_k (Decidable.not_not.mp h33)); omega)) ?_
      refine V_vret (x := 0) hX dX7_readPlaces_44 rfl ?_
      exact ⟨rfl, by unfold rPl; repeat (first | rw [if_pos (by omega)] | rw [if_neg (by omega)])⟩
  · refine V_aloadn (pc := 10) dX7_readPlaces_10 rfl ?_
    refine V_iconst (pc := 11) dX7_readPlaces_11 ?_
    refine V_iloadn (pc := 12) dX7_readPlaces_12 rfl ?_
    refine V_cu2 (pc := 13) dX7_readPlaces_13 kX7_74 zk_64 (by decide) (Nat.le_of_ble_eq_true rfl) (s_blm h) ?_
    refine V_vret (x := 0) hX dX7_readPlaces_16 rfl ?_
    exact ⟨rfl, by unfold rPl; repeat (first | rw [if_pos (by omega)] | rw [if_neg (by omega)])⟩

section
variable {X : ZX}
set_option maxRecDepth 20000 in
theorem l_roadTail {μ : Mem} (h : RI μ) {f a b s : Int} (hv : μ 64 3 = 0 → rOk μ a b) (hX : isM X (fun w m => w = un ∧ m = rdT μ a b)) : V X mX7_readRoad 85 [vr 64, vi f, vi a, vi s, vi b, un] [] μ := by
  have h1 := RI_nM h 1 99
  have h2 := RI_eM h1
  have hk := h2.2.2.2.1
  have hn := nV_rg μ
  refine V_aloadn (pc := 85) dX7_readRoad_85 rfl ?_
  refine V_iconst (pc := 86) dX7_readRoad_86 ?_
  refine V_bipush (pc := 87) dX7_readRoad_87 (by decide +kernel) ?_
  refine V_cv2 (pc := 89) dX7_readRoad_89 kX7_78 zk_64 (by decide) (Nat.le_of_ble_eq_true rfl) (s_readNumber h (by decide) (by decide)) rfl ?_
  refine V_istore_5 (pc := 92) dX7_readRoad_92 (by decide) rfl ?_
  refine V_aloadn (pc := 94) dX7_readRoad_94 rfl ?_
  refine V_cu0 (pc := 95) dX7_readRoad_95 kX7_82 zk_64 (by decide) (Nat.le_of_ble_eq_true rfl) (s_readEnd h1) ?_
  refine V_aloadn (pc := 98) dX7_readRoad_98 rfl ?_
  refine V_geti (r := 0) (pc := 99) dX7_readRoad_99 fX7_23 zk_64 ?_
  skip
  refine V_if_ne (pc := 102) (tgt := 117) dX7_readRoad_102 (by decide) (by omega) (fun h102 => ?_) (fun h102 => ?_)
  · refine V_vret (x := 0) hX dX7_readRoad_117 rfl ?_
    exact ⟨rfl, by unfold rdT; first | rw [if_pos (by omega)] | rw [if_neg (by omega)]⟩
  · obtain ⟨k1, k2, k3, k4, k5, k6⟩ := rOk_c (m := eM (nM μ 1 99)) (by rw [eM_c (by decide), nM_c (by decide)]) (by rw [eM_c (by decide), nM_c (by decide)]) (hv (nM_k (l := 1) (g := 99) (eM_k (by omega))).1)
    refine V_aloadn (pc := 105) dX7_readRoad_105 rfl ?_
    refine V_getr (pc := 106) dX7_readRoad_106 fX7_19 zk_64 zr_64_1 ?_
    refine V_iloadn (pc := 109) dX7_readRoad_109 rfl ?_
    refine V_iload (pc := 110) dX7_readRoad_110 rfl ?_
    refine V_iload (pc := 112) dX7_readRoad_112 rfl ?_
    refine V_cu3 (pc := 114) dX7_readRoad_114 kX7_95 zk_48 (by decide) (Nat.le_of_ble_eq_true rfl) (s_addRoad LandAt_48 (RI_l48 h2) k1 k2 k3 k4 ⟨by omega, by omega⟩ k5 k6) ?_
    refine V_vret (x := 0) hX dX7_readRoad_117 rfl ?_
    exact ⟨rfl, by unfold rdT; first | rw [if_pos (by omega)] | rw [if_neg (by omega)]⟩

set_option maxRecDepth 20000 in
theorem l_travTail {μ : Mem} (h : RI μ) {f a b s : Int} (hv : 0 ≤ μ 48 2 ∧ μ 48 2 < 20) (hX : isM X (fun w m => w = un ∧ m = rdG μ a b)) : V X mX7_readTravel 71 [vr 64, vi f, vi a, vi s, vi b, un] [] μ := by
  have h1 := RI_nM h 1 99
  have h2 := RI_eM h1
  have hk := h2.2.2.2.1
  have hn := nV_rg μ
  refine V_aloadn (pc := 71) dX7_readTravel_71 rfl ?_
  refine V_iconst (pc := 72) dX7_readTravel_72 ?_
  refine V_bipush (pc := 73) dX7_readTravel_73 (by decide +kernel) ?_
  refine V_cv2 (pc := 75) dX7_readTravel_75 kX7_78 zk_64 (by decide) (Nat.le_of_ble_eq_true rfl) (s_readNumber h (by decide) (by decide)) rfl ?_
  refine V_istore_5 (pc := 78) dX7_readTravel_78 (by decide) rfl ?_
  refine V_aloadn (pc := 80) dX7_readTravel_80 rfl ?_
  refine V_cu0 (pc := 81) dX7_readTravel_81 kX7_82 zk_64 (by decide) (Nat.le_of_ble_eq_true rfl) (s_readEnd h1) ?_
  refine V_aloadn (pc := 84) dX7_readTravel_84 rfl ?_
  refine V_geti (r := 0) (pc := 85) dX7_readTravel_85 fX7_23 zk_64 ?_
  skip
  refine V_if_ne (pc := 88) (tgt := 103) dX7_readTravel_88 (by decide) (by omega) (fun h88 => ?_) (fun h88 => ?_)
  · refine V_vret (x := 0) hX dX7_readTravel_103 rfl ?_
    exact ⟨rfl, by unfold rdG; first | rw [if_pos (by omega)] | rw [if_neg (by omega)]⟩
  · skip
    refine V_aloadn (pc := 91) dX7_readTravel_91 rfl ?_
    refine V_getr (pc := 92) dX7_readTravel_92 fX7_19 zk_64 zr_64_1 ?_
    refine V_iloadn (pc := 95) dX7_readTravel_95 rfl ?_
    refine V_iload (pc := 96) dX7_readTravel_96 rfl ?_
    refine V_iload (pc := 98) dX7_readTravel_98 rfl ?_
    refine V_cu3 (pc := 100) dX7_readTravel_100 kX7_102 zk_48 (by decide) (Nat.le_of_ble_eq_true rfl) (s_addTravel LandAt_48 (by rw [eM_c (by decide), nM_c (by decide)]; exact hv)) ?_
    refine V_vret (x := 0) hX dX7_readTravel_103 rfl ?_
    exact ⟨rfl, by unfold rdG; first | rw [if_pos (by omega)] | rw [if_neg (by omega)]⟩

end

set_option maxRecDepth 20000 in
theorem s_readRoad {μ : Mem} (h : RI μ) {f : Int} : SP mX7_readRoad [vr 64, vi f] μ (fun w m => w = un ∧ m = rRd μ f) := by
  refine SP_intro (ls := [vr 64, vi f, un, un, un, un]) (by decide +kernel) rfl rfl (Nat.le_of_ble_eq_true rfl) rfl (fun X hX => ?_)
  have h1 := RI_r1 h
  have h2 := RI_r2 h
  have h3 := RI_r3 h
  have hp := (RI_l48 h).1
  have hr := (RI_l48 h).2.1
  have ht := (RI_l48 h).2.2.1
  have hk3 := h3.2.2.2.1
  have hv1 := nV_rg μ
  have hv2 := nV_rg (r2 μ)
  refine V_aloadn (pc := 0) dX7_readRoad_0 rfl ?_
  refine V_getr (pc := 1) dX7_readRoad_1 fX7_19 zk_64 zr_64_1 ?_
  refine V_cv0 (pc := 4) dX7_readRoad_4 kX7_88 zk_48 (by decide) (Nat.le_of_ble_eq_true rfl) (s_roads LandAt_48) rfl ?_
  refine V_bipush (pc := 7) dX7_readRoad_7 (by decide +kernel) ?_
  refine V_icmp_lt (pc := 9) (tgt := 19) dX7_readRoad_9 (by decide) (by omega) (by decide) (fun h9 => ?_) (fun h9 => ?_)
  · refine V_aloadn (pc := 19) dX7_readRoad_19 rfl ?_
    refine V_iconst (pc := 20) dX7_readRoad_20 ?_
    refine V_aloadn (pc := 21) dX7_readRoad_21 rfl ?_
    refine V_getr (pc := 22) dX7_readRoad_22 fX7_19 zk_64 zr_64_1 ?_
    refine V_cv0 (pc := 25) dX7_readRoad_25 kX7_62 zk_48 (by decide) (Nat.le_of_ble_eq_true rfl) (s_places LandAt_48) rfl ?_
    refine V_iconst (pc := 28) dX7_readRoad_28 ?_
    refine V_isub (pc := 29) dX7_readRoad_29 ?_
    refine V_cv2 (pc := 30) dX7_readRoad_30 kX7_78 zk_64 (by decide) (Nat.le_of_ble_eq_true rfl) (s_n1 h) rfl ?_
    refine V_istore_2 (pc := 33) dX7_readRoad_33 (by decide) rfl ?_
    refine V_aloadn (pc := 34) dX7_readRoad_34 rfl ?_
    refine V_cu0 (pc := 35) dX7_readRoad_35 kX7_34 zk_64 (by decide) (Nat.le_of_ble_eq_true rfl) (s_n2 h) ?_
    refine V_aloadn (pc := 38) dX7_readRoad_38 rfl ?_
    refine V_geti (r := 0) (pc := 39) dX7_readRoad_39 fX7_26 zk_64 ?_
    rw [r2_2]
    refine V_istore_3 (pc := 42) dX7_readRoad_42 (by decide) rfl ?_
    refine V_aloadn (pc := 43) dX7_readRoad_43 rfl ?_
    refine V_iconst (pc := 44) dX7_readRoad_44 ?_
    refine V_aloadn (pc := 45) dX7_readRoad_45 rfl ?_
    refine V_getr (pc := 46) dX7_readRoad_46 fX7_19 zk_64 zr_64_1 ?_
    refine V_cv0 (pc := 49) dX7_readRoad_49 kX7_62 zk_48 (by decide) (Nat.le_of_ble_eq_true rfl) (s_places LandAt_48) rfl ?_
    refine V_iconst (pc := 52) dX7_readRoad_52 ?_
    refine V_isub (pc := 53) dX7_readRoad_53 ?_
    refine V_cv2 (pc := 54) dX7_readRoad_54 kX7_78 zk_64 (by decide) (Nat.le_of_ble_eq_true rfl) (s_n3 h) rfl ?_
    refine V_istore_4 (pc := 57) dX7_readRoad_57 (by decide) rfl ?_
    refine V_aloadn (pc := 59) dX7_readRoad_59 rfl ?_
    refine V_geti (r := 0) (pc := 60) dX7_readRoad_60 fX7_23 zk_64 ?_
    refine V_if_ne (pc := 63) (tgt := 85) dX7_readRoad_63 (by decide) (by omega) (fun h63 => ?_) (fun h63 => ?_)
    · unfold rRd at hX
      rw [if_neg (by omega)] at hX
      have e := l_roadTail (RI_r4 h) (f := f) (s := nB (r1 μ)) (r4_ok (by omega)) hX
      first | (rw [show r4 μ = r3 μ from if_neg (fun q => by have := q.1; omega)] at e; exact e) | (rw [show r4 μ = r3 μ from if_neg (fun q => q.2 h76)] at e; exact e) | (rw [show r4 μ = blm (r3 μ) 4 (nB (r1 μ)) from if_pos ⟨by omega, h76⟩] at e; exact e)
    · refine V_aloadn (pc := 66) dX7_readRoad_66 rfl ?_
      refine V_getr (pc := 67) dX7_readRoad_67 fX7_19 zk_64 zr_64_1 ?_
      refine V_iloadn (pc := 70) dX7_readRoad_70 rfl ?_
      refine V_iload (pc := 71) dX7_readRoad_71 rfl ?_
      refine V_cv2 (pc := 73) dX7_readRoad_73 kX7_91 zk_48 (by decide) (Nat.le_of_ble_eq_true rfl) (s_mayJoin LandAt_48 (RI_l48 h3) (by omega) (by omega)) rfl ?_
      refine V_ifne_b (pc := 76) (tgt := 85) dX7_readRoad_76 (by decide) (fun h76 => ?_) (fun h76 => ?_)
      · unfold rRd at hX
        rw [if_neg (by omega)] at hX
        have e := l_roadTail (RI_r4 h) (f := f) (s := nB (r1 μ)) (r4_ok (by omega)) hX
        first | (rw [show r4 μ = r3 μ from if_neg (fun q => by have := q.1; omega)] at e; exact e) | (rw [show r4 μ = r3 μ from if_neg (fun q => q.2 h76)] at e; exact e) | (rw [show r4 μ = blm (r3 μ) 4 (nB (r1 μ)) from if_pos ⟨by omega, h76⟩] at e; exact e)
      · refine V_aloadn (pc := 79) dX7_readRoad_79 rfl ?_
        refine V_iconst (pc := 80) dX7_readRoad_80 ?_
        refine V_iloadn (pc := 81) dX7_readRoad_81 rfl ?_
        refine V_cu2 (pc := 82) dX7_readRoad_82 kX7_74 zk_64 (by decide) (Nat.le_of_ble_eq_true rfl) (s_blm h3) ?_
        unfold rRd at hX
        rw [if_neg (by omega)] at hX
        have e := l_roadTail (RI_r4 h) (f := f) (s := nB (r1 μ)) (r4_ok (by omega)) hX
        first | (rw [show r4 μ = r3 μ from if_neg (fun q => by have := q.1; omega)] at e; exact e) | (rw [show r4 μ = r3 μ from if_neg (fun q => q.2 h76)] at e; exact e) | (rw [show r4 μ = blm (r3 μ) 4 (nB (r1 μ)) from if_pos ⟨by omega, h76⟩] at e; exact e)
  · refine V_aloadn (pc := 12) dX7_readRoad_12 rfl ?_
    refine V_iconst (pc := 13) dX7_readRoad_13 ?_
    refine V_iloadn (pc := 14) dX7_readRoad_14 rfl ?_
    refine V_cu2 (pc := 15) dX7_readRoad_15 kX7_74 zk_64 (by decide) (Nat.le_of_ble_eq_true rfl) (s_blm h) ?_
    refine V_vret (x := 0) hX dX7_readRoad_18 rfl ?_
    exact ⟨rfl, by unfold rRd; rw [if_pos (by omega)]⟩

set_option maxRecDepth 20000 in
theorem s_readTravel {μ : Mem} (h : RI μ) {f : Int} : SP mX7_readTravel [vr 64, vi f] μ (fun w m => w = un ∧ m = rTv μ f) := by
  refine SP_intro (ls := [vr 64, vi f, un, un, un, un]) (by decide +kernel) rfl rfl (Nat.le_of_ble_eq_true rfl) rfl (fun X hX => ?_)
  have h1 := RI_r1 h
  have h2 := RI_r2 h
  have h3 := RI_r3 h
  have hp := (RI_l48 h).1
  have hr := (RI_l48 h).2.1
  have ht := (RI_l48 h).2.2.1
  have hk3 := h3.2.2.2.1
  have hv1 := nV_rg μ
  have hv2 := nV_rg (r2 μ)
  refine V_aloadn (pc := 0) dX7_readTravel_0 rfl ?_
  refine V_getr (pc := 1) dX7_readTravel_1 fX7_19 zk_64 zr_64_1 ?_
  refine V_cv0 (pc := 4) dX7_readTravel_4 kX7_99 zk_48 (by decide) (Nat.le_of_ble_eq_true rfl) (s_travels LandAt_48) rfl ?_
  refine V_bipush (pc := 7) dX7_readTravel_7 (by decide +kernel) ?_
  refine V_icmp_lt (pc := 9) (tgt := 19) dX7_readTravel_9 (by decide) (by omega) (by decide) (fun h9 => ?_) (fun h9 => ?_)
  · refine V_aloadn (pc := 19) dX7_readTravel_19 rfl ?_
    refine V_iconst (pc := 20) dX7_readTravel_20 ?_
    refine V_aloadn (pc := 21) dX7_readTravel_21 rfl ?_
    refine V_getr (pc := 22) dX7_readTravel_22 fX7_19 zk_64 zr_64_1 ?_
    refine V_cv0 (pc := 25) dX7_readTravel_25 kX7_62 zk_48 (by decide) (Nat.le_of_ble_eq_true rfl) (s_places LandAt_48) rfl ?_
    refine V_iconst (pc := 28) dX7_readTravel_28 ?_
    refine V_isub (pc := 29) dX7_readTravel_29 ?_
    refine V_cv2 (pc := 30) dX7_readTravel_30 kX7_78 zk_64 (by decide) (Nat.le_of_ble_eq_true rfl) (s_n1 h) rfl ?_
    refine V_istore_2 (pc := 33) dX7_readTravel_33 (by decide) rfl ?_
    refine V_aloadn (pc := 34) dX7_readTravel_34 rfl ?_
    refine V_cu0 (pc := 35) dX7_readTravel_35 kX7_34 zk_64 (by decide) (Nat.le_of_ble_eq_true rfl) (s_n2 h) ?_
    refine V_aloadn (pc := 38) dX7_readTravel_38 rfl ?_
    refine V_geti (r := 0) (pc := 39) dX7_readTravel_39 fX7_26 zk_64 ?_
    rw [r2_2]
    refine V_istore_3 (pc := 42) dX7_readTravel_42 (by decide) rfl ?_
    refine V_aloadn (pc := 43) dX7_readTravel_43 rfl ?_
    refine V_iconst (pc := 44) dX7_readTravel_44 ?_
    refine V_aloadn (pc := 45) dX7_readTravel_45 rfl ?_
    refine V_getr (pc := 46) dX7_readTravel_46 fX7_19 zk_64 zr_64_1 ?_
    refine V_cv0 (pc := 49) dX7_readTravel_49 kX7_62 zk_48 (by decide) (Nat.le_of_ble_eq_true rfl) (s_places LandAt_48) rfl ?_
    refine V_iconst (pc := 52) dX7_readTravel_52 ?_
    refine V_isub (pc := 53) dX7_readTravel_53 ?_
    refine V_cv2 (pc := 54) dX7_readTravel_54 kX7_78 zk_64 (by decide) (Nat.le_of_ble_eq_true rfl) (s_n3 h) rfl ?_
    refine V_istore_4 (pc := 57) dX7_readTravel_57 (by decide) rfl ?_
    refine V_iloadn (pc := 59) dX7_readTravel_59 rfl ?_
    refine V_iload (pc := 60) dX7_readTravel_60 rfl ?_
    refine V_icmp_ne (pc := 62) (tgt := 71) dX7_readTravel_62 (by decide) (by omega) (by omega) (fun h62 => ?_) (fun h62 => ?_)
    · unfold rTv at hX
      rw [if_neg (by omega)] at hX
      have e := l_travTail (RI_r5 h) (f := f) (s := nB (r1 μ)) (by rw [r5_c (by decide)]; omega) hX
      first | (rw [show r5 μ = r3 μ from if_neg (by omega)] at e; exact e) | (rw [show r5 μ = blm (r3 μ) 4 (nB (r1 μ)) from if_pos (by omega)] at e; exact e)
    · refine V_aloadn (pc := 65) dX7_readTravel_65 rfl ?_
      refine V_iconst (pc := 66) dX7_readTravel_66 ?_
      refine V_iloadn (pc := 67) dX7_readTravel_67 rfl ?_
      refine V_cu2 (pc := 68) dX7_readTravel_68 kX7_74 zk_64 (by decide) (Nat.le_of_ble_eq_true rfl) (s_blm h3) ?_
      unfold rTv at hX
      rw [if_neg (by omega)] at hX
      have e := l_travTail (RI_r5 h) (f := f) (s := nB (r1 μ)) (by rw [r5_c (by decide)]; omega) hX
      first | (rw [show r5 μ = r3 μ from if_neg (by omega)] at e; exact e) | (rw [show r5 μ = blm (r3 μ) 4 (nB (r1 μ)) from if_pos (by omega)] at e; exact e)
  · refine V_aloadn (pc := 12) dX7_readTravel_12 rfl ?_
    refine V_iconst (pc := 13) dX7_readTravel_13 ?_
    refine V_iloadn (pc := 14) dX7_readTravel_14 rfl ?_
    refine V_cu2 (pc := 15) dX7_readTravel_15 kX7_74 zk_64 (by decide) (Nat.le_of_ble_eq_true rfl) (s_blm h) ?_
    refine V_vret (x := 0) hX dX7_readTravel_18 rfl ?_
    exact ⟨rfl, by unfold rTv; rw [if_pos (by omega)]⟩

/-! THE RELATION between the class's cells and the reference's, and what follows from it -/
/-- what holds of a land -/
def LF (μ : Mem) : Prop := LOK μ 32 ∧ VL μ ∧
  (∀ p t : Int, (0 ≤ p ∧ p < μ 32 0) → (0 ≤ t ∧ t < μ 32 0) → (gArm μ 32 p t = -1 ↔ (p = t ∨ gFar μ 32 p t = -1)) ∧ (¬ gArm μ 32 p t = -1 → gLn μ 32 (gRd μ 32 p (gArm μ 32 p t)) + gFar μ 32 (gBy μ 32 p (gRd μ 32 p (gArm μ 32 p t))) t = gFar μ 32 p t ∧ ¬ gFar μ 32 (gBy μ 32 p (gRd μ 32 p (gArm μ 32 p t))) t = -1)) ∧
  (∀ p : Int, (0 ≤ p ∧ p < μ 32 0) → gFar μ 32 p p = 0) ∧
  (∀ p i j : Int, (0 ≤ p ∧ p < μ 32 0) → 0 ≤ i → i < j → j < gSd μ 32 p → ¬ gBy μ 32 p (gRd μ 32 p i) = gBy μ 32 p (gRd μ 32 p j)) ∧
  (∀ p r : Int, (0 ≤ p ∧ p < μ 32 0) → (0 ≤ r ∧ r < μ 32 1) → eP μ p r → ∃ i, (0 ≤ i ∧ i < gSd μ 32 p) ∧ gRd μ 32 p i = r)
/-- the same land -/
def LAg (μ ν : Mem) : Prop := ∀ k, 32 ≤ k → k ≤ 45 → ν k = μ k
theorem VL_cg {μ ν : Mem} (h : LAg μ ν) (hV : VL μ) : VL ν := by
  unfold VL
  simp only [h 32 (by decide) (by decide), h (32 + 4) (by decide) (by decide), h (32 + 5) (by decide) (by decide), h (32 + 6) (by decide) (by decide), h (32 + 7) (by decide) (by decide), h (32 + 8) (by decide) (by decide), h (32 + 9) (by decide) (by decide), h (32 + 10) (by decide) (by decide), h (32 + 11) (by decide) (by decide), h (32 + 12) (by decide) (by decide), h (32 + 13) (by decide) (by decide)]
  exact hV
theorem LF_cg {μ ν : Mem} (h : LAg μ ν) (H : LF μ) : LF ν := by
  have c0 := h 32 (by decide) (by decide)
  have c4 := h (32 + 4) (by decide) (by decide)
  have c5 := h (32 + 5) (by decide) (by decide)
  have eA : gArm ν 32 = gArm μ 32 := by funext a b; exact gArm_cg c0 (h (32 + 13) (by decide) (by decide)) a b
  have eF : gFar ν 32 = gFar μ 32 := by funext a b; exact gFar_cg c0 (h (32 + 12) (by decide) (by decide)) a b
  have eS : gSd ν 32 = gSd μ 32 := by funext a; exact gSd_cg c0 (h (32 + 10) (by decide) (by decide)) a
  have eR : gRd ν 32 = gRd μ 32 := by funext a b; exact gRd_cg c0 (h (32 + 10) (by decide) (by decide)) (h (32 + 11) (by decide) (by decide)) a b
  have eB : gBy ν 32 = gBy μ 32 := by funext a b; exact gBy_cg c0 c4 c5 a b
  have eL : gLn ν 32 = gLn μ 32 := by funext a; exact gLn_cg c0 (h (32 + 6) (by decide) (by decide)) a
  have eE : eP ν = eP μ := by funext p r; simp only [eP, c4, c5]
  obtain ⟨h1, h2, h3, h4, h5, h6⟩ := H
  refine ⟨LOK_cg h1 c0 (fun k a b => h (32 + k) (by omega) (by omega)), VL_cg h h2, ?_, ?_, ?_, ?_⟩
  · rw [eA, eF, eR, eB, eL, c0]; exact h3
  · rw [eF, c0]; exact h4
  · rw [eR, eB, eS, c0]; exact h5
  · rw [eR, eS, eE, c0]; exact h6
theorem LF.A5 {μ : Mem} (h : LF μ) (p t : Int) : gArm μ 32 p t ≤ 5 := by
  obtain ⟨hL, hV, _⟩ := h
  by_cases c : (0 ≤ p ∧ p < μ 32 0) ∧ (0 ≤ t ∧ t < μ 32 0)
  · have v := hV.2.2.1 p.toNat t.toNat (by omega) (by omega)
    have s := hL.2.2.2.1 p.toNat
    have e : gArm μ 32 p t = μ (32 + 13) (p.toNat * 9 + t.toNat) := by unfold gArm; rw [if_pos c]; congr 1; omega
    omega
  · unfold gArm; rw [if_neg c]; decide
theorem LF.A1 {μ : Mem} (h : LF μ) (p t : Int) : -1 ≤ gArm μ 32 p t := by
  obtain ⟨hL, hV, _⟩ := h
  by_cases c : (0 ≤ p ∧ p < μ 32 0) ∧ (0 ≤ t ∧ t < μ 32 0)
  · have v := hV.2.2.1 p.toNat t.toNat (by omega) (by omega)
    have e : gArm μ 32 p t = μ (32 + 13) (p.toNat * 9 + t.toNat) := by unfold gArm; rw [if_pos c]; congr 1; omega
    omega
  · unfold gArm; rw [if_neg c]; decide
theorem LF.far {μ : Mem} (h : LF μ) (p t : Int) : -1 ≤ gFar μ 32 p t ∧ gFar μ 32 p t < 1000000 := by
  obtain ⟨hL, hV, _⟩ := h
  by_cases c : (0 ≤ p ∧ p < μ 32 0) ∧ (0 ≤ t ∧ t < μ 32 0)
  · have v := hV.2.2.1 p.toNat t.toNat (by omega) (by omega)
    have e : gFar μ 32 p t = μ (32 + 12) (p.toNat * 9 + t.toNat) := by unfold gFar; rw [if_pos c]; congr 1; omega
    omega
  · unfold gFar; rw [if_neg c]; decide
theorem LF.ln {μ : Mem} (h : LF μ) (r : Int) : 0 ≤ gLn μ 32 r ∧ gLn μ 32 r ≤ 99 := by
  obtain ⟨hL, hV, _⟩ := h
  by_cases c : 0 ≤ r ∧ r < μ 32 1
  · have v := hV.1 r.toNat (by omega)
    unfold gLn; rw [if_pos c]; omega
  · unfold gLn; rw [if_neg c]; decide
/-- posts of this land -/
def PO (μ : Mem) (o : Nat) : Prop := POK μ o ∧ (∀ p : Nat, (p : Int) < μ 32 0 → 0 < μ (32 + 10) p → μ (o + 2) p < μ (32 + 10) p) ∧ ∀ p t : Nat, (p : Int) < μ 32 0 → (t : Int) < μ 32 0 → (¬ μ (32 + 13) (p * 9 + t) = -1 → 0 ≤ μ (o + 4) (p * 9 + t) ∧ μ (o + 4) (p * 9 + t) < 1000000) ∧ (μ (32 + 13) (p * 9 + t) = -1 → μ (o + 4) (p * 9 + t) = μ (32 + 12) (p * 9 + t))
def OAg (o : Nat) (μ ν : Mem) : Prop := ν (o + 2) = μ (o + 2) ∧ ν (o + 3) = μ (o + 3) ∧ ν (o + 4) = μ (o + 4)
theorem POK_cg {μ ν : Mem} {o : Nat} (g : OAg o μ ν) (h : POK μ o) : POK ν o := by
  obtain ⟨a, b, c⟩ := h
  exact ⟨fun p => by rw [g.1]; exact a p, fun p => by rw [g.2.1]; exact b p, fun p => by rw [g.2.2]; exact c p⟩
theorem PO_cg {μ ν : Mem} {o : Nat} (h : LAg μ ν) (g : OAg o μ ν) (H : PO μ o) : PO ν o := by
  refine ⟨POK_cg g H.1, ?_, ?_⟩
  · rw [h 32 (by decide) (by decide), h (32 + 10) (by decide) (by decide), g.1]; exact H.2.1
  · rw [h 32 (by decide) (by decide), h (32 + 12) (by decide) (by decide), h (32 + 13) (by decide) (by decide), g.2.2]; exact H.2.2
/-- the text -/
def TX (μ : Mem) : Prop := TOK μ ∧ B8 μ ∧ MT μ ∧ μ 256 18 = μ 16 1 ∧ ∀ i : Nat, (i : Int) < μ 16 1 → μ 274 i = μ 17 i
/-- the seed -/
def SD (μ : Mem) : Prop := μ 256 16 = μ 176 0 ∧ 0 ≤ μ 176 0 ∧ μ 176 0 < 2147483648
/-- an image: its number, the class's image and its posts, the reference's row from a on -/
def IM (μ : Mem) (i m q a : Nat) : Prop := μ 312 i = μ m 2 ∧ (μ 312 i = 0 ∨ μ 312 i = 1) ∧ POK μ q ∧ (μ 312 i = 1 → PO μ q ∧ (∀ p : Nat, (p : Int) < μ 32 0 → μ 311 (a + p) = μ (q + 2) p + 10 * μ (q + 3) p) ∧ (∀ p t : Nat, (p : Int) < μ 32 0 → (t : Int) < μ 32 0 → ¬ μ (32 + 13) (p * 9 + t) = -1 → μ 311 (a + 10 + (p * 9 + t)) = μ (q + 4) (p * 9 + t)) ∧ (μ 311 (a + 91) = μ m 1 ∧ 0 ≤ μ m 1 ∧ μ m 1 < 2147483648) ∧ ∀ p : Nat, p < 9 → (0 ≤ μ 311 (a + p) % 10 ∧ μ 311 (a + p) % 10 ≤ 4) ∧ 0 ≤ μ 311 (a + p) / 10 ∧ μ 311 (a + p) / 10 ≤ 31)
theorem IM_cg {μ ν : Mem} {i m q a : Nat} (h : LAg μ ν) (g : OAg q μ ν) (hm : ν m = μ m) (h1 : ν 311 = μ 311) (h2 : ν 312 = μ 312) (H : IM μ i m q a) : IM ν i m q a := by
  obtain ⟨a1, a2, a3, a4⟩ := H
  refine ⟨by rw [h2, hm]; exact a1, by rw [h2]; exact a2, POK_cg g a3, fun hk => ?_⟩
  rw [h2] at hk
  obtain ⟨b1, b2, b3, b4, b5⟩ := a4 hk
  refine ⟨PO_cg h g b1, ?_, ?_, ?_, ?_⟩
  · rw [h 32 (by decide) (by decide), h1, g.1, g.2.1]; exact b2
  · rw [h 32 (by decide) (by decide), h (32 + 13) (by decide) (by decide), h1, g.2.2]; exact b3
  · rw [h1, hm]; exact b4
  · rw [h1]; exact b5
def IB (μ : Mem) : Prop := (∀ x, inR (μ 311 x)) ∧ ∀ j : Nat, μ 312 j = 0 ∨ μ 312 j = 1
/-- what was seen was seen towards a side -/
def RS2 (μ : Mem) : Prop := ∀ k : Nat, (k : Int) < μ 144 4 → ¬ sTw μ 32 (μ 146 k) (μ 148 k) (gSd μ 32 (μ 146 k)).toNat 0 = -1
theorem sTw_cg {μ ν : Mem} (h : LAg μ ν) {p q : Int} : ∀ (n : Nat) (s : Int), sTw ν 32 p q n s = sTw μ 32 p q n s := by
  intro n
  induction n with
  | zero => intros; rfl
  | succ n ih => intro s; rw [sTw_s, sTw_s, ih, gRd_cg (h 32 (by decide) (by decide)) (h (32 + 10) (by decide) (by decide)) (h (32 + 11) (by decide) (by decide)), gBy_cg (h 32 (by decide) (by decide)) (h (32 + 4) (by decide) (by decide)) (h (32 + 5) (by decide) (by decide))]
theorem RS2_cg {μ ν : Mem} (h : LAg μ ν) (h2 : ν 144 = μ 144) (h3 : ∀ k, 146 ≤ k → k ≤ 148 → ν k = μ k) (H : RS2 μ) : RS2 ν := by
  intro k hk
  rw [h2] at hk
  rw [h3 146 (by decide) (by decide), h3 148 (by decide) (by decide), sTw_cg h, gSd_cg (h 32 (by decide) (by decide)) (h (32 + 10) (by decide) (by decide))]
  exact H k hk
/-- the relation -/
def REL (μ : Mem) : Prop := LF μ ∧ PO μ 80 ∧ RM μ ∧ (RS μ ∧ SOK μ) ∧ (RB μ ∧ BOK μ) ∧ TX μ ∧ μ 256 19 = μ 64 4 ∧ SD μ ∧ MB μ ∧ (IM μ 0 192 208 0 ∧ IM μ 1 224 240 100 ∧ IB μ) ∧ LOK μ 48 ∧ RS2 μ
/-- the reference's land and posts are the same -/
def RAg (μ ν : Mem) : Prop := (∀ k, 257 ≤ k → k ≤ 273 → ν k = μ k) ∧ ∀ j, j < 17 → ν 256 j = μ 256 j
theorem RM_cg {μ ν : Mem} (h : LAg μ ν) (g : OAg 80 μ ν) (r : RAg μ ν) (hR : RM μ) : RM ν := by
  unfold RM
  simp only [h 32 (by decide) (by decide), h (32 + 4) (by decide) (by decide), h (32 + 5) (by decide) (by decide), h (32 + 6) (by decide) (by decide), h (32 + 7) (by decide) (by decide), h (32 + 8) (by decide) (by decide), h (32 + 9) (by decide) (by decide), h (32 + 10) (by decide) (by decide), h (32 + 11) (by decide) (by decide), h (32 + 12) (by decide) (by decide), h (32 + 13) (by decide) (by decide), g.1, g.2.1, g.2.2, r.1 259 (by decide) (by decide), r.1 260 (by decide) (by decide), r.1 261 (by decide) (by decide), r.1 263 (by decide) (by decide), r.1 264 (by decide) (by decide), r.1 265 (by decide) (by decide), r.1 266 (by decide) (by decide), r.1 267 (by decide) (by decide), r.1 268 (by decide) (by decide), r.1 269 (by decide) (by decide), r.1 270 (by decide) (by decide), r.1 271 (by decide) (by decide), r.1 272 (by decide) (by decide), r.2 0 (by decide), r.2 1 (by decide), r.2 5 (by decide)]
  exact hR
theorem RS_cg {μ ν : Mem} (h : LAg μ ν) (h1 : ν 256 41 = μ 256 41) (h2 : ν 144 = μ 144) (h3 : ∀ k, 146 ≤ k → k ≤ 148 → ν k = μ k) (h4 : ∀ k, 299 ≤ k → k ≤ 301 → ν k = μ k) (H : RS μ) : RS ν := by
  have eA : gArm ν 32 = gArm μ 32 := by funext a b; exact gArm_cg (h 32 (by decide) (by decide)) (h (32 + 13) (by decide) (by decide)) a b
  unfold RS
  rw [h1, h2, h3 146 (by decide) (by decide), h3 147 (by decide) (by decide), h3 148 (by decide) (by decide), h4 299 (by decide) (by decide), h4 300 (by decide) (by decide), h4 301 (by decide) (by decide), h 32 (by decide) (by decide), eA]
  exact H
theorem SOK_cg {μ ν : Mem} (h2 : ν 144 = μ 144) (h3 : ∀ k, 146 ≤ k → k ≤ 148 → ν k = μ k) (H : SOK μ) : SOK ν := by
  refine ⟨by rw [h2]; exact H.1, fun k j a b => by rw [h3 k a b]; exact H.2 k j a b⟩
theorem RB_cg {μ ν : Mem} (h : ν 32 = μ 32) (h1 : ν 256 49 = μ 256 49) (h2 : ν 160 = μ 160) (h3 : ∀ k, 161 ≤ k → k ≤ 164 → ν k = μ k) (h4 : ∀ k, 307 ≤ k → k ≤ 310 → ν k = μ k) (H : RB μ) : RB ν := by
  unfold RB
  rw [h1, h2, h3 161 (by decide) (by decide), h3 162 (by decide) (by decide), h3 163 (by decide) (by decide), h3 164 (by decide) (by decide), h4 307 (by decide) (by decide), h4 308 (by decide) (by decide), h4 309 (by decide) (by decide), h4 310 (by decide) (by decide), h]
  exact H
theorem BOK_cg {μ ν : Mem} (h2 : ν 160 = μ 160) (h3 : ∀ k, 161 ≤ k → k ≤ 164 → ν k = μ k) (H : BOK μ) : BOK ν := by
  refine ⟨by rw [h2]; exact H.1, fun k j a b => by rw [h3 k a b]; exact H.2 k j a b⟩
theorem TX_cg {μ ν : Mem} (h1 : ν 16 = μ 16) (h2 : ν 17 = μ 17) (h3 : ν 256 18 = μ 256 18) (h4 : ν 274 = μ 274) (H : TX μ) : TX ν := by
  obtain ⟨a, b, c, d, e⟩ := H
  refine ⟨by unfold TOK; rw [h1]; exact a, by unfold B8; rw [h2]; exact b, by unfold MT; rw [h3, h4]; exact c, by rw [h3, h1]; exact d, by rw [h1, h2, h4]; exact e⟩
theorem MB_cg {μ ν : Mem} (h0 : ν 256 0 = μ 256 0) (h16 : ν 256 16 = μ 256 16) (h : ∀ k, 266 ≤ k → k ≤ 272 → ν k = μ k) (H : MB μ) : MB ν := by
  unfold MB
  rw [h0, h16, h 266 (by decide) (by decide), h 268 (by decide) (by decide), h 269 (by decide) (by decide), h 270 (by decide) (by decide), h 271 (by decide) (by decide), h 272 (by decide) (by decide)]
  exact H
/-- only scratch cells differ -/
def SC (μ ν : Mem) : Prop := (∀ k, k ≠ 96 → k ≠ 99 → k ≠ 115 → k ≠ 128 → k ≠ 256 → k ≠ 296 → k ≠ 297 → (k < 302 ∨ 304 < k) → ν k = μ k) ∧ ∀ j, (j < 34 ∨ 38 < j) → j ≠ 48 → ν 256 j = μ 256 j
theorem SC.rf (μ : Mem) : SC μ μ := ⟨fun _ _ _ _ _ _ _ _ _ => rfl, fun _ _ _ => rfl⟩
theorem SC.tr {μ ν ξ : Mem} (h : SC μ ν) (g : SC ν ξ) : SC μ ξ := ⟨fun k a b c d e f x y => (g.1 k a b c d e f x y).trans (h.1 k a b c d e f x y), fun j a b => (g.2 j a b).trans (h.2 j a b)⟩
theorem Fr.sc {μ ν : Mem} (h : Fr μ ν) : SC μ ν := ⟨fun k a b _ _ _ _ _ _ => h k a b, fun j _ _ => by rw [h 256 (by decide) (by decide)]⟩
theorem Fr5.sc {μ ν : Mem} (h : Fr5 μ ν) : SC μ ν := ⟨fun k a b c _ _ _ _ _ => h k a b c, fun j _ _ => by rw [h 256 (by decide) (by decide) (by decide)]⟩
theorem MWf.sc {μ ν : Mem} (h : MWf μ ν) : SC μ ν := ⟨fun k _ _ _ _ e f g _ => h.1 k e f g, fun j a _ => h.2 j a⟩
theorem MOf.sc {μ ν : Mem} (h : MOf μ ν) : SC μ ν := ⟨fun k _ _ _ _ e _ _ i => h.1 k e i, fun j _ b => h.2 j b⟩
theorem SC.c {μ ν : Mem} (h : SC μ ν) (k : Nat) (hk : k ≠ 96 ∧ k ≠ 99 ∧ k ≠ 115 ∧ k ≠ 128 ∧ k ≠ 256 ∧ k ≠ 296 ∧ k ≠ 297 ∧ (k < 302 ∨ 304 < k)) : ν k = μ k := h.1 k hk.1 hk.2.1 hk.2.2.1 hk.2.2.2.1 hk.2.2.2.2.1 hk.2.2.2.2.2.1 hk.2.2.2.2.2.2.1 hk.2.2.2.2.2.2.2
theorem SC.l {μ ν : Mem} (h : SC μ ν) : LAg μ ν := fun k a b => h.c k (by omega)
theorem SC.ag {μ ν : Mem} (h : SC μ ν) : Ag μ ν := fun k a => h.c k (by omega)
theorem REL_sc {μ ν : Mem} (h : SC μ ν) (H : REL μ) : REL ν := by
  obtain ⟨h1, h2, h3, ⟨h4, h4'⟩, ⟨h5, h5'⟩, h6, h7, h8, h9, ⟨h10, h11, h12⟩, h13, h14⟩ := H
  have o80 : OAg 80 μ ν := ⟨h.c _ (by decide), h.c _ (by decide), h.c _ (by decide)⟩
  have r0 : RAg μ ν := ⟨fun k a b => h.c k (by omega), fun j hj => h.2 j (by omega) (by omega)⟩
  refine ⟨LF_cg h.l h1, PO_cg h.l o80 h2, RM_cg h.l o80 r0 h3, ⟨RS_cg h.l (h.2 41 (by decide) (by decide)) (h.c 144 (by decide)) (fun k a b => h.c k (by omega)) (fun k a b => h.c k (by omega)) h4, SOK_cg (h.c 144 (by decide)) (fun k a b => h.c k (by omega)) h4'⟩, ⟨RB_cg (h.c 32 (by decide)) (h.2 49 (by decide) (by decide)) (h.c 160 (by decide)) (fun k a b => h.c k (by omega)) (fun k a b => h.c k (by omega)) h5, BOK_cg (h.c 160 (by decide)) (fun k a b => h.c k (by omega)) h5'⟩, TX_cg (h.c 16 (by decide)) (h.c 17 (by decide)) (h.2 18 (by decide) (by decide)) (h.c 274 (by decide)) h6, ?_, ?_, MB_cg (h.2 0 (by decide) (by decide)) (h.2 16 (by decide) (by decide)) (fun k a b => h.c k (by omega)) h9, ⟨IM_cg h.l ⟨h.c _ (by decide), h.c _ (by decide), h.c _ (by decide)⟩ (h.c 192 (by decide)) (h.c 311 (by decide)) (h.c 312 (by decide)) h10, IM_cg h.l ⟨h.c _ (by decide), h.c _ (by decide), h.c _ (by decide)⟩ (h.c 224 (by decide)) (h.c 311 (by decide)) (h.c 312 (by decide)) h11, ?_⟩, LOK_cg h13 (h.c 48 (by decide)) (fun k a b => h.c (48 + k) (by omega)), RS2_cg h.l (h.c 144 (by decide)) (fun k a b => h.c k (by omega)) h14⟩
  · rw [h.2 19 (by decide) (by decide), h.c 64 (by decide)]; exact h7
  · unfold SD; rw [h.2 16 (by decide) (by decide), h.c 176 (by decide)]; exact h8
  · unfold IB; rw [h.c 311 (by decide), h.c 312 (by decide)]; exact h12
theorem REL.gi {μ : Mem} (H : REL μ) : GI μ := ⟨H.1.1, H.2.1.1, H.1.2.1, H.2.2.1⟩
/-- every walk ends -/
theorem wk_end {μ : Mem} (hG : GI μ) {t r : Int} (ht : 0 ≤ t ∧ t < μ 32 0) : ∀ (n : Nat) (x been ms : Int), (0 ≤ x ∧ x < μ 32 0) → (0 ≤ been ∧ been < 512) → bitsF been = 10 - n → ¬ (wk μ t r n x been ms).1 = 0 := by
  have hP := hG.1.1
  intro n
  induction n with
  | zero =>
    intro x been ms hx hb hc
    have := bitsF_rg' hb
    omega
  | succ n ih =>
    intro x been ms hx hbn hc
    unfold wk
    by_cases c : gArm μ 32 x t = -1 ∨ (¬ hb r x = 1 ∧ hb (μ (80 + 3) x.toNat) (gArm μ 32 x t) = 1)
    · rw [if_pos (rT_lost hG hx ht c)]; show ¬ (2 : Int) = 0; decide
    · obtain ⟨_, g2, _, _, g5⟩ := rT_go hG hx ht c
      rw [if_neg (by omega)]
      by_cases d : gBy μ 32 x (rT μ 80 x t r) = t
      · rw [if_pos d]; show ¬ (1 : Int) = 0; decide
      · rw [if_neg d]
        have i1 := In_iff (s := been) (k := gBy μ 32 x (rT μ 80 x t r)) (by omega)
        by_cases e : In been (gBy μ 32 x (rT μ 80 x t r))
        · rw [if_pos e]; show ¬ (3 : Int) = 0; decide
        · rw [if_neg e]
          have h01 := hb_01 been (gBy μ 32 x (rT μ 80 x t r))
          have hbo := bits_or' hbn (q := gBy μ 32 x (rT μ 80 x t r)) (by omega) (by omega)
          exact ih _ _ _ g5 ⟨hbo.2.1, hbo.2.2.1⟩ (by omega)
theorem bits_1 : ∀ a : Nat, a < 9 → bitsF (ishl 1 (a : Int)) = 1 ∧ 0 ≤ ishl 1 (a : Int) ∧ ishl 1 (a : Int) < 512 := by decide +kernel
theorem bits_1' {a : Int} (h : 0 ≤ a ∧ a < 9) : bitsF (ishl 1 a) = 1 ∧ 0 ≤ ishl 1 a ∧ ishl 1 a < 512 := by
  have := bits_1 a.toNat (by omega)
  rwa [show ((a.toNat : Nat) : Int) = a by omega] at this
theorem wkF_end {μ : Mem} (hG : GI μ) (a t r : Int) (ha : 0 ≤ a ∧ a < μ 32 0) (ht : 0 ≤ t ∧ t < μ 32 0) : ¬ (wkF μ a t r).1 = 0 := by
  have hP := hG.1.1
  unfold wkF
  by_cases c : a = t
  · rw [if_pos c]; show ¬ (1 : Int) = 0; decide
  · rw [if_neg c]
    have b := bits_1' (a := a) (by omega)
    exact wk_end hG ht 9 a _ 0 ha b.2 (by omega)
theorem rT_arm {μ : Mem} {x t r : Int} (h : ¬ rT μ 80 x t r = -1) : ¬ gArm μ 32 x t = -1 := by
  intro q
  apply h
  unfold rT
  rw [if_pos]
  unfold aT
  split
  · rfl
  · exact q
theorem come_far {μ : Mem} (hF : LF μ) {a t s : Int} (ha : 0 ≤ a ∧ a < μ 32 0) (ht : 0 ≤ t ∧ t < μ 32 0) (h : (wkF μ a t s).1 = 1) : ¬ gFar μ 32 a t = -1 := by
  unfold wkF at h
  by_cases c : a = t
  · subst c; rw [hF.2.2.2.1 a ha]; decide
  · rw [if_neg c] at h
    unfold wk at h
    by_cases d : rT μ 80 a t s = -1
    · rw [if_pos d] at h; exact absurd h (by decide)
    · have := rT_arm d
      have h3 := (hF.2.2.1 a t ha ht).1
      intro q
      exact this (h3.mpr (Or.inr q))
theorem REL.trav {μ : Mem} (H : REL μ) {g : Int} (hg : 0 ≤ g ∧ g < μ 32 2) : (0 ≤ gFr μ 32 g ∧ gFr μ 32 g < μ 32 0) ∧ (0 ≤ gTo μ 32 g ∧ gTo μ 32 g < μ 32 0) ∧ (1 ≤ gHd μ 32 g ∧ gHd μ 32 g ≤ 99) := by
  have := RM.trav H.gi hg
  exact this.2.2.2
theorem REL.gw {μ : Mem} (H : REL μ) : GW μ := ⟨H.gi, H.1.ln, fun a t r ha ht _ => wkF_end H.gi a t r ha ht, fun g s hg _ h => come_far H.1 (H.trav hg).1 (H.trav hg).2.1 h⟩
theorem REL.ci {μ : Mem} (H : REL μ) : CI μ := by
  have i1 := H.2.2.2.2.2.2.2.2.2.1.1
  have i2 := H.2.2.2.2.2.2.2.2.2.1.2.1
  exact ⟨H.1.1, H.2.1.1, H.1.A5, H.1.A1, H.1.ln, H.2.2.2.1.2, H.2.2.2.2.1.2, H.2.2.2.2.2.1.1, H.2.2.2.2.2.2.2.1.2, by have := i1.1; have := i1.2.1; omega, by have := i2.1; have := i2.2.1; omega⟩
theorem aT_arm {μ : Mem} {x t r : Int} (h : ¬ aT μ 80 x t r = -1) : aT μ 80 x t r = gArm μ 32 x t ∧ ¬ gArm μ 32 x t = -1 := by
  unfold aT at h ⊢
  split at h
  · exact absurd rfl h
  · rename_i c
    rw [if_neg c]
    exact ⟨rfl, h⟩
theorem REL.mt {μ : Mem} (H : REL μ) (p t : Int) (hp : 0 ≤ p ∧ p < μ 32 0) (ht : 0 ≤ t ∧ t < μ 32 0) (h : ¬ aT μ 80 p t 0 = -1) : ¬ mT μ 80 p t = -1 ∧ mT μ 80 p t < 1000000 ∧ ¬ gFar μ 32 p t = -1 := by
  obtain ⟨_, a2⟩ := aT_arm h
  have e : gArm μ 32 p t = μ (32 + 13) (p.toNat * 9 + t.toNat) := by unfold gArm; rw [if_pos ⟨hp, ht⟩]; congr 1; omega
  have e2 : pM μ 80 p t = μ (80 + 4) (p.toNat * 9 + t.toNat) := by unfold pM; rw [if_pos ⟨hp, ht⟩]; congr 1; omega
  have b := (H.2.1.2.2 p.toNat t.toNat (by omega) (by omega)).1 (by rw [← e]; exact a2)
  have e3 : mT μ 80 p t = pM μ 80 p t := by unfold mT; rw [if_neg h]
  have h3 := (H.1.2.2.1 p t hp ht).1
  exact ⟨by omega, by omega, fun q => a2 (h3.mpr (Or.inr q))⟩
theorem REL.self {μ : Mem} (H : REL μ) (q t : Int) (h : q = t) : aT μ 80 q t 0 = -1 := by
  subst h
  have e : gArm μ 32 q q = -1 := by
    by_cases c : 0 ≤ q ∧ q < μ 32 0
    · exact (H.1.2.2.1 q q c c).1.mpr (Or.inl rfl)
    · unfold gArm; rw [if_neg (by omega)]
  by_cases d : aT μ 80 q q 0 = -1
  · exact d
  · exact absurd e (aT_arm d).2
theorem mul_rg {a b : Int} (ha : 0 ≤ a ∧ a ≤ 99) (hb : -1000000 ≤ b ∧ b ≤ 1000000) : -99000000 ≤ a * b ∧ a * b ≤ 99000000 := by
  have h1 : a * b ≤ a * 1000000 := Int.mul_le_mul_of_nonneg_left hb.2 ha.1
  have h2 : a * (-1000000) ≤ a * b := Int.mul_le_mul_of_nonneg_left hb.1 ha.1
  omega
theorem REL.co {μ : Mem} (H : REL μ) (s : Int) : inR (cost μ s) := by
  have key : ∀ (n : Nat) (g acc : Int), 0 ≤ g → g + n = μ 32 2 → -99000000 * g ≤ acc ∧ acc ≤ 99000000 * g → -99000000 * (g + n) ≤ cst μ s n g acc ∧ cst μ s n g acc ≤ 99000000 * (g + n) := by
    intro n
    induction n with
    | zero => intro g acc _ _ h; simpa [cst] using h
    | succ n ih =>
      intro g acc h0 h1 h
      rw [cst_s]
      have tv := H.trav (g := g) (by omega)
      have r1 := wkF_rg μ H.1.ln (gFr μ 32 g) (gTo μ 32 g) s
      have f1 := H.1.far (gFr μ 32 g) (gTo μ 32 g)
      have he : -1000000 ≤ ech μ s g ∧ ech μ s g ≤ 1000000 := by unfold ech; split <;> omega
      have := mul_rg (a := gHd μ 32 g) (by omega) he
      have := ih (g + 1) (acc + gHd μ 32 g * ech μ s g) (by omega) (by omega) (by omega)
      omega
  have h2 := H.1.1.2.2.1
  have := key (μ 32 2).toNat 0 0 (by decide) (by omega) (by decide)
  unfold cost
  omega

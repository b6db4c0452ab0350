theorem REL_land0 {μ ν : Mem} (H : REL μ) (hc : ∀ k, (k ≠ 16 ∧ (k < 48 ∨ 61 < k) ∧ k ≠ 64 ∧ k ≠ 256 ∧ (k < 284 ∨ 290 < k)) → ν k = μ k) (hj : ∀ j, (j < 18 ∨ (26 < j ∧ j ≠ 30)) → ν 256 j = μ 256 j) (hTX : TX ν) (hFP : ν 256 19 = ν 64 4) (hL48 : LOK ν 48) : REL ν := by
  obtain ⟨h1, h2, h3, ⟨h4, h4'⟩, ⟨h5, h5'⟩, h6, h7, h8, h9, ⟨h10, h11, h12⟩, h13, h14⟩ := id H
  have hl : LAg μ ν := fun k a b => hc k (by omega)
  exact ⟨LF_cg hl h1, PO_cg hl ⟨hc _ (by decide), hc _ (by decide), hc _ (by decide)⟩ h2, RM_cg hl ⟨hc _ (by decide), hc _ (by decide), hc _ (by decide)⟩ ⟨fun k a b => hc k (by omega), fun j hq => hj j (by omega)⟩ h3, ⟨RS_cg hl (hj 41 (by decide)) (hc 144 (by decide)) (fun k a b => hc k (by omega)) (fun k a b => hc k (by omega)) h4, SOK_cg (hc 144 (by decide)) (fun k a b => hc k (by omega)) h4'⟩, ⟨RB_cg (hc 32 (by decide)) (hj 49 (by decide)) (hc 160 (by decide)) (fun k a b => hc k (by omega)) (fun k a b => hc k (by omega)) h5, BOK_cg (hc 160 (by decide)) (fun k a b => hc k (by omega)) h5'⟩, hTX, hFP, by unfold SD; rw [(hj 16 (by decide)), (hc 176 (by decide))]; exact h8, MB_cg (hj 0 (by decide)) (hj 16 (by decide)) (fun k a b => hc k (by omega)) h9, ⟨IM_cg hl ⟨hc _ (by decide), hc _ (by decide), hc _ (by decide)⟩ (hc 192 (by decide)) (hc 311 (by decide)) (hc 312 (by decide)) h10, IM_cg hl ⟨hc _ (by decide), hc _ (by decide), hc _ (by decide)⟩ (hc 224 (by decide)) (hc 311 (by decide)) (hc 312 (by decide)) h11, by unfold IB; rw [(hc 311 (by decide)), (hc 312 (by decide))]; exact h12⟩, hL48, RS2_cg hl (hc 144 (by decide)) (fun k a b => hc k (by omega)) h14⟩
theorem ARM_cg {f g l D Q Q2 : Row} {s p t : Nat} {v : Int} (h : ∀ i, i < s → Q2 (p * 5 + i) = Q (p * 5 + i)) (H : ARM f g l D Q s p t v) : ARM f g l D Q2 s p t v := by
  have e : ∀ i, i < s → (lds f g l D Q2 p t i ↔ lds f g l D Q p t i) := fun i hi => by unfold lds; rw [h i hi]
  rcases H with ⟨a, b⟩ | ⟨k, a, b, c, d, x, y⟩
  · refine Or.inl ⟨a, ?_⟩
    rcases b with z | z | z
    · exact Or.inl z
    · exact Or.inr (Or.inl z)
    · exact Or.inr (Or.inr (fun i hi q => z i hi ((e i hi).mp q)))
  · exact Or.inr ⟨k, a, b, c, d, (e k b).mpr x, fun i hi q => y i hi ((e i (by omega)).mp q)⟩
theorem edgR_eq {d : Mem} {f g l : Row} {P N : Nat} (h0 : d 48 0 = (P : Int)) (h1 : d 48 1 = (N : Int)) (hV : Vr f g l N P) (h : ∀ r, r < N → d (48 + 4) r = f r ∧ d (48 + 5) r = g r ∧ d (48 + 6) r = l r) : ∀ (n r : Nat) (D : Row), r + n = N → edgR d 48 n r D = edM f g l n r D := by
  intro n
  induction n with
  | zero => intros; rfl
  | succ n ih =>
    intro r D hr
    have a := h r (by omega)
    have v := hV r (by omega)
    have e1 : gOne d 48 r = f r := by unfold gOne; rw [if_pos (by omega), Int.toNat_natCast]; exact a.1
    have e2 : gTwo d 48 r = g r := by unfold gTwo; rw [if_pos (by omega), Int.toNat_natCast]; exact a.2.1
    have e3 : gLn d 48 r = l r := by unfold gLn; rw [if_pos (by omega), Int.toNat_natCast]; exact a.2.2
    rw [edgR_s, edM_s, e1, e2, e3, if_pos (by omega), show f r * 9 + g r = 9 * f r + g r by omega, show g r * 9 + f r = 9 * g r + f r by omega, show ((r : Int) + 1) = ((r + 1 : Nat) : Int) by omega]
    exact ih (r + 1) _ (by omega)
theorem edM_cg {f g l f2 g2 l2 : Row} {N : Nat} (h : ∀ r, r < N → f2 r = f r ∧ g2 r = g r ∧ l2 r = l r) : ∀ (n r : Nat) (D : Row), r + n = N → edM f2 g2 l2 n r D = edM f g l n r D := by
  intro n
  induction n with
  | zero => intros; rfl
  | succ n ih =>
    intro r D hr
    have a := h r (by omega)
    rw [edM_s, edM_s, a.1, a.2.1, a.2.2]
    exact ih (r + 1) _ (by omega)
theorem edM_81 {f g l : Row} : ∀ (n r : Nat) (D E : Row), E81 D E → E81 (edM f g l n r D) (edM f g l n r E) := by
  intro n
  induction n with
  | zero => intro r D E h; exact h
  | succ n ih =>
    intro r D E h
    rw [edM_s, edM_s]
    refine ih (r + 1) _ _ (fun x hx => ?_)
    unfold up
    split
    · rfl
    · split
      · rfl
      · exact h x hx
theorem fill_81 (D E : Row) : E81 (fillR 81 0 D) (fillR 81 0 E) := fun x hx => by
  have c : (0 : Int) ≤ x ∧ (x : Int) < 0 + ((81 : Nat) : Int) := by omega
  rw [fillR_get 81 0 D x (by decide), fillR_get 81 0 E x (by decide), if_pos c, if_pos c]
/-- the start of the distances -/
theorem FI_st {f g l : Row} {N P : Nat} (hP : P ≤ 9) (hV : Vr f g l N P) (hU : UQ f g N) {D0 : Row} (h0 : ∀ x, inR (D0 x)) : FI (edg f g l N) P 0 (edM f g l N 0 (fillR 81 0 D0)) := by
  have hdb : DB (fillR 81 0 D0) := by
    refine ⟨fun x => ?_, fun x hx => ?_⟩
    · rw [fillR_get 81 0 D0 x (by decide)]
      split
      · split <;> decide
      · exact h0 x
    · rw [fillR_get 81 0 D0 x (by decide), if_pos (by omega)]
      split <;> decide
  refine FI_0 hP hV hU (edM_db N 0 _ (fun x _ hx => by have := hV x (by omega); omega) hdb) ?_
  refine edM_get hP hV hU N 0 _ (by omega) (fun a b ha hb => Or.inr ⟨fun s hs => by omega, ?_⟩)
  show fillR 81 0 D0 (9 * a + b) = _
  rw [fillR_get 81 0 D0 _ (by decide), if_pos (by omega)]
  by_cases e : a = b
  · rw [if_pos (by omega), if_pos e]
  · rw [if_neg (by omega), if_neg e]
theorem sAll_c {k : Nat} (h2 : k ≠ 82) (h3 : k ≠ 83) (h4 : k ≠ 84) : ∀ (n : Nat) (p : Int) (m : Mem), sAll 80 n p m k = m k := by
  intro n
  induction n with
  | zero => intros; rfl
  | succ n ih => intro p m; rw [sAll_s, ih, sRt_out h2 h3 h4]
theorem sAll_ch : ∀ (n : Nat) (p : Int) (m : Mem), 0 ≤ p → ∀ a b : Nat, sAll 80 n p m a b = if (a = 82 ∨ a = 83) ∧ (p ≤ b ∧ (b : Int) < p + n) then 0 else if a = 84 ∧ (p ≤ (b / 9 : Nat) ∧ ((b / 9 : Nat) : Int) < p + n) then gFar m 32 (b / 9 : Nat) (b % 9 : Nat) else m a b := by
  intro n
  induction n with
  | zero => intro p m h0 a b; rw [if_neg (fun q => by omega), if_neg (fun q => by omega)]; rfl
  | succ n ih =>
    intro p m h0 a b
    have e32 : sRt m 80 p 9 32 = m 32 := sRt_32 PostsAt_80
    have eFv : gFar (sRt m 80 p 9) 32 (b / 9 : Nat) (b % 9 : Nat) = gFar m 32 (b / 9 : Nat) (b % 9 : Nat) := gFar_cg e32 (sRt_out (by decide) (by decide) (by decide)) _ _
    rw [sAll_s, ih (p + 1) _ (by omega) a b, eFv]
    by_cases c1 : (a = 82 ∨ a = 83) ∧ (p ≤ b ∧ (b : Int) < p + (n + 1 : Nat))
    · rw [if_pos c1]
      by_cases c2 : (b : Int) = p
      · rw [if_neg (by omega), if_neg (by omega)]
        unfold sRt
        rw [if_neg (by omega), if_pos (by omega)]
      · rw [if_pos (by omega)]
    · rw [if_neg c1, if_neg (by omega)]
      by_cases c3 : a = 84 ∧ (p ≤ (b / 9 : Nat) ∧ ((b / 9 : Nat) : Int) < p + (n + 1 : Nat))
      · rw [if_pos c3]
        by_cases c4 : ((b / 9 : Nat) : Int) = p
        · rw [if_neg (by omega)]
          unfold sRt
          rw [if_pos (by omega)]
          congr 1
          · omega
          · omega
        · rw [if_pos (by omega)]
      · rw [if_neg c3, if_neg (by omega)]
        unfold sRt
        rw [if_neg (by omega), if_neg (by omega)]
theorem full_hb {P : Nat} (hP : P ≤ 9) : ∀ k : Nat, k < P → hb (ishl 1 (P : Int) - 1) (k : Int) = 1 := by
  have : ∀ P : Nat, P < 10 → ∀ k : Nat, k < 9 → k < P → hb (ishl 1 (P : Int) - 1) (k : Int) = 1 := by decide +kernel
  intro k hk
  exact this P (by omega) k (by omega) hk
/-- a text with a fault -/
theorem land_bad {μ m2 : Mem} (H : REL μ) {R : Mem} (hR : FPm (lA μ) R) (h64 : R 256 19 = ra2 μ 64 4) (hm : m2 = mu R 256 18 0) : REL m2 := by
  obtain ⟨hT, hB, hM, hc, hq⟩ := H.2.2.2.2.2.1
  have hL48 := H.2.2.2.2.2.2.2.2.2.2.1
  have g : ∀ k, (k ≠ 256 ∧ (k < 284 ∨ 290 < k)) → m2 k = lA μ k := fun k hk => by rw [hm, mu_ne (by omega), hR.1 k (by omega) (by omega)]
  have gj : ∀ j, (j < 18 ∨ (26 < j ∧ j ≠ 30)) → m2 256 j = μ 256 j := fun j hj => by rw [hm, mu_j (by omega), hR.2 j (by omega), lA_c (by decide) (by decide) (by decide)]
  have e18 : m2 256 18 = 0 := by rw [hm, mu_h]
  have l16 : lA μ 16 1 = 0 := mu_h
  have l64 : lA μ 64 = ra2 μ 64 := by unfold lA; rw [mu_ne (by decide)]; exact rAll_64
  refine REL_land0 H (fun k hk => by rw [g k (by omega), lA_c (by omega) (by omega) (by omega)]) gj ⟨?_, ?_, ⟨by rw [e18]; decide, ?_⟩, by rw [e18, g 16 (by decide), l16], ?_⟩ ?_ (LOK_cg (LOK_lA48 hT hB hL48) (g 48 (by decide)) (fun k a b => g (48 + k) (by omega)))
  · unfold TOK; rw [g 16 (by decide), l16]; decide
  · unfold B8; rw [g 17 (by decide), lA_c (by decide) (by decide) (by decide)]; exact hB
  · rw [g 274 (by decide), lA_c (by decide) (by decide) (by decide)]; exact hM.2
  · intro i hi; rw [g 16 (by decide), l16] at hi; omega
  · rw [hm, mu_j (by decide), mu_ne (by decide), hR.1 64 (by decide) (by decide), l64]; exact h64

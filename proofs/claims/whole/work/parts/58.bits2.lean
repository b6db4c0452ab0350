/-! sets as numbers: bits, one by one -/
theorem nn_of {a : Int} (h : 0 ≤ a ∧ a < 2147483648) : ∃ n : Nat, a = (n : Int) ∧ n < 2147483648 := ⟨a.toNat, by omega, by omega⟩
theorem hb_tb {n : Nat} {k : Int} (hk : 0 ≤ k ∧ k < 31) (h : n < 2147483648) : hb (n : Int) k = 1 ↔ n.testBit k.toNat = true := by
  have e := hb_nn (n := n) (k := k.toNat) (by omega) h
  rw [show ((k.toNat : Nat) : Int) = k by omega] at e
  rw [e]
  by_cases c : n.testBit k.toNat = true <;> simp [c]
theorem or_rg {a b : Int} (ha : 0 ≤ a ∧ a < 2147483648) (hb : 0 ≤ b ∧ b < 2147483648) : 0 ≤ iorr a b ∧ iorr a b < 2147483648 := by
  obtain ⟨n, rfl, hn⟩ := nn_of ha
  obtain ⟨m, rfl, hm⟩ := nn_of hb
  rw [iorr_nn hn hm]
  have := nn_lt hn hm
  omega
theorem hb_or {a b k : Int} (ha : 0 ≤ a ∧ a < 2147483648) (hb2 : 0 ≤ b ∧ b < 2147483648) (hk : 0 ≤ k ∧ k < 31) : hb (iorr a b) k = 1 ↔ hb a k = 1 ∨ hb b k = 1 := by
  obtain ⟨n, rfl, hn⟩ := nn_of ha
  obtain ⟨m, rfl, hm⟩ := nn_of hb2
  rw [iorr_nn hn hm, hb_tb hk (nn_lt hn hm), hb_tb hk hn, hb_tb hk hm, Nat.testBit_or, Bool.or_eq_true]
theorem and_rg {a b : Int} (ha : 0 ≤ a ∧ a < 2147483648) (hb : 0 ≤ b ∧ b < 2147483648) : 0 ≤ iand a b ∧ iand a b ≤ a ∧ iand a b ≤ b := by
  obtain ⟨n, rfl, hn⟩ := nn_of ha
  obtain ⟨m, rfl, hm⟩ := nn_of hb
  rw [iand_nn hn]
  have h1 : (n &&& m) ≤ n := Nat.and_le_left
  have h2 : (n &&& m) ≤ m := Nat.and_le_right
  omega
theorem hb_and {a b k : Int} (ha : 0 ≤ a ∧ a < 2147483648) (hb2 : 0 ≤ b ∧ b < 2147483648) (hk : 0 ≤ k ∧ k < 31) : hb (iand a b) k = 1 ↔ hb a k = 1 ∧ hb b k = 1 := by
  obtain ⟨n, rfl, hn⟩ := nn_of ha
  obtain ⟨m, rfl, hm⟩ := nn_of hb2
  have h1 : (n &&& m) ≤ n := Nat.and_le_left
  rw [iand_nn hn, hb_tb hk (by omega), hb_tb hk hn, hb_tb hk hm, Nat.testBit_and, Bool.and_eq_true]
theorem hb_shl {p k : Int} (hp : 0 ≤ p ∧ p < 31) (hk : 0 ≤ k ∧ k < 31) : hb (ishl 1 p) k = 1 ↔ k = p := by
  have e := ishl_1 p.toNat (by omega)
  rw [show ((p.toNat : Nat) : Int) = p by omega] at e
  rw [e]
  have hlt : 2 ^ p.toNat < 2147483648 := Nat.pow_lt_pow_right (by decide) (show p.toNat < 31 by omega)
  have e2 : ((2 : Int) ^ p.toNat) = ((2 ^ p.toNat : Nat) : Int) := by norm_cast
  rw [e2, hb_tb hk hlt, Nat.testBit_two_pow]
  simp only [decide_eq_true_eq]
  omega
theorem hb_ext {a b : Int} (ha : 0 ≤ a ∧ a < 2147483648) (hb2 : 0 ≤ b ∧ b < 2147483648) (h : ∀ k, 0 ≤ k → k < 31 → (hb a k = 1 ↔ hb b k = 1)) : a = b := by
  obtain ⟨n, rfl, hn⟩ := nn_of ha
  obtain ⟨m, rfl, hm⟩ := nn_of hb2
  congr 1
  apply Nat.eq_of_testBit_eq
  intro i
  by_cases c : i < 31
  · have := h i (by omega) (by omega)
    rw [hb_tb (by omega) hn, hb_tb (by omega) hm] at this
    simp only [Int.toNat_natCast] at this
    cases h1 : n.testBit i <;> cases h2 : m.testBit i <;> simp_all
  · have hp : 2147483648 ≤ 2 ^ i := by
      have : 2 ^ 31 ≤ 2 ^ i := Nat.pow_le_pow_right (by decide) (by omega)
      omega
    rw [Nat.testBit_lt_two_pow (by omega), Nat.testBit_lt_two_pow (by omega)]
theorem hb_hi {a k : Int} {n : Nat} (ha : 0 ≤ a) (hl : a < ((2 ^ n : Nat) : Int)) (hn : (n : Int) ≤ k) (hk : k < 31) : ¬ hb a k = 1 := by
  have hp : 2 ^ n ≤ 2 ^ k.toNat := Nat.pow_le_pow_right (by decide) (by omega)
  have hp2 : 2 ^ n ≤ 2 ^ 31 := Nat.pow_le_pow_right (by decide) (by omega)
  obtain ⟨m, rfl, hm⟩ := nn_of (a := a) ⟨ha, by omega⟩
  rw [hb_tb (by omega) hm, Nat.testBit_lt_two_pow (by omega)]
  decide
theorem hb_lo {a : Int} {n : Nat} (hn : n ≤ 31) (ha : 0 ≤ a ∧ a < 2147483648) (h : ∀ k, (n : Int) ≤ k → k < 31 → ¬ hb a k = 1) : a < ((2 ^ n : Nat) : Int) := by
  obtain ⟨m, rfl, hm⟩ := nn_of ha
  have : m < 2 ^ n := by
    apply Nat.lt_pow_two_of_testBit
    intro i hi
    by_cases c : i < 31
    · have := h i (by omega) (by omega)
      rw [hb_tb (by omega) hm] at this
      simpa using this
    · have hp : 2 ^ 31 ≤ 2 ^ i := Nat.pow_le_pow_right (by decide) (by omega)
      exact Nat.testBit_lt_two_pow (by omega)
  omega
theorem shl_rg {p : Int} (hp : 0 ≤ p ∧ p < 31) : 0 ≤ ishl 1 p ∧ ishl 1 p < 2147483648 := by
  have := ishl_1r hp
  omega
/-- the bits of a gathered set -/
theorem sb_hb (f : Int → Prop) [∀ x, Decidable (f x)] : ∀ (n : Nat) (p acc : Int), 0 ≤ p → p + n ≤ 31 → (0 ≤ acc ∧ acc < 2147483648) → (0 ≤ sb f n p acc ∧ sb f n p acc < 2147483648) ∧ ∀ k, 0 ≤ k → k < 31 → (hb (sb f n p acc) k = 1 ↔ hb acc k = 1 ∨ ((p ≤ k ∧ k < p + n) ∧ f k)) := by
  intro n
  induction n with
  | zero => intro p acc h0 h1 ha; exact ⟨ha, fun k h h2 => ⟨Or.inl, fun q => q.elim id (fun q => by omega)⟩⟩
  | succ n ih =>
    intro p acc h0 h1 ha
    rw [sb_s]
    have hs := shl_rg (p := p) (by omega)
    have key : (0 ≤ (if f p then iorr acc (ishl 1 p) else acc) ∧ (if f p then iorr acc (ishl 1 p) else acc) < 2147483648) ∧ ∀ k, 0 ≤ k → k < 31 → (hb (if f p then iorr acc (ishl 1 p) else acc) k = 1 ↔ hb acc k = 1 ∨ (k = p ∧ f k)) := by
      by_cases c : f p
      · rw [if_pos c]
        refine ⟨or_rg ha hs, fun k h2 h3 => ?_⟩
        rw [hb_or ha hs ⟨h2, h3⟩, hb_shl (by omega) ⟨h2, h3⟩]
        constructor
        · rintro (q | rfl)
          · exact Or.inl q
          · exact Or.inr ⟨rfl, c⟩
        · rintro (q | q)
          · exact Or.inl q
          · exact Or.inr q.1
      · rw [if_neg c]
        refine ⟨ha, fun k h2 h3 => ⟨Or.inl, ?_⟩⟩
        rintro (q | ⟨rfl, q⟩)
        · exact q
        · exact absurd q c
    obtain ⟨i1, i2⟩ := ih (p + 1) _ (by omega) (by omega) key.1
    refine ⟨i1, fun k h2 h3 => ?_⟩
    rw [i2 k h2 h3, key.2 k h2 h3]
    constructor
    · rintro ((q | ⟨rfl, q⟩) | ⟨q, q2⟩)
      · exact Or.inl q
      · exact Or.inr ⟨by omega, q⟩
      · exact Or.inr ⟨by omega, q2⟩
    · rintro (q | ⟨q, q2⟩)
      · exact Or.inl (Or.inl q)
      · by_cases e : k = p
        · exact Or.inl (Or.inr ⟨e, q2⟩)
        · exact Or.inr ⟨by omega, q2⟩
theorem hb_00 {k : Int} (hk : 0 ≤ k ∧ k < 31) : ¬ hb 0 k = 1 := by
  have := hb_0 k.toNat (by omega)
  rw [show ((k.toNat : Nat) : Int) = k by omega] at this
  omega
theorem sb_hb0 (f : Int → Prop) [∀ x, Decidable (f x)] (n : Nat) (hn : n ≤ 31) : (0 ≤ sb f n 0 0 ∧ sb f n 0 0 < ((2 ^ n : Nat) : Int)) ∧ ∀ k, 0 ≤ k → k < 31 → (hb (sb f n 0 0) k = 1 ↔ (k < n ∧ f k)) := by
  obtain ⟨h1, h2⟩ := sb_hb f n 0 0 (by decide) (by omega) (by decide)
  have h3 : ∀ k, 0 ≤ k → k < 31 → (hb (sb f n 0 0) k = 1 ↔ (k < n ∧ f k)) := fun k a b => by
    rw [h2 k a b]
    constructor
    · rintro (q | q)
      · exact absurd q (hb_00 ⟨a, b⟩)
      · exact ⟨by omega, q.2⟩
    · intro q; exact Or.inr ⟨by omega, q.2⟩
  exact ⟨⟨h1.1, hb_lo hn h1 (fun k a b => by rw [h3 k (by omega) b]; omega)⟩, h3⟩
theorem sb_cg {f g : Int → Prop} [∀ x, Decidable (f x)] [∀ x, Decidable (g x)] : ∀ (n : Nat) (p acc : Int), (∀ k, p ≤ k → k < p + n → (f k ↔ g k)) → sb f n p acc = sb g n p acc := by
  intro n
  induction n with
  | zero => intros; rfl
  | succ n ih =>
    intro p acc h
    rw [sb_s, sb_s, ih (p + 1) _ (fun k a b => h k (by omega) (by omega))]
    have := h p (by omega) (by omega)
    by_cases c : f p
    · rw [if_pos c, if_pos (this.mp c)]
    · rw [if_neg c, if_neg (fun q => c (this.mpr q))]
theorem bitsF_sum (s : Int) : bitsF s = hb s 0 + hb s 1 + hb s 2 + hb s 3 + hb s 4 + hb s 5 + hb s 6 + hb s 7 + hb s 8 := by
  show (0 : Int) + hb s 0 + hb s 1 + hb s 2 + hb s 3 + hb s 4 + hb s 5 + hb s 6 + hb s 7 + hb s 8 = _
  omega
theorem bitsF_mono {a b : Int} (h : ∀ k, 0 ≤ k → k < 9 → hb a k = 1 → hb b k = 1) : bitsF a ≤ bitsF b := by
  rw [bitsF_sum, bitsF_sum]
  have t : ∀ k, 0 ≤ k → k < 9 → hb a k ≤ hb b k := fun k h1 h2 => by
    have a1 := hb_01 a k
    have b1 := hb_01 b k
    have := h k h1 h2
    omega
  have := t 0 (by decide) (by decide)
  have := t 1 (by decide) (by decide)
  have := t 2 (by decide) (by decide)
  have := t 3 (by decide) (by decide)
  have := t 4 (by decide) (by decide)
  have := t 5 (by decide) (by decide)
  have := t 6 (by decide) (by decide)
  have := t 7 (by decide) (by decide)
  have := t 8 (by decide) (by decide)
  omega

theorem ze_bv (n : Nat) : (Int32.ofInt (n : Int)).toBitVec = BitVec.ofNat 32 n := by
  first | exact BitVec.ofInt_natCast 32 n | simp | rfl
theorem ze_and (n m : Nat) : Int32.ofInt (n : Int) &&& Int32.ofInt (m : Int) = Int32.ofInt ((n &&& m : Nat) : Int) := by
  apply Int32.toBitVec_inj.mp
  rw [Int32.toBitVec_and, ze_bv, ze_bv, ze_bv, BitVec.ofNat_and]
theorem ze_or (n m : Nat) : Int32.ofInt (n : Int) ||| Int32.ofInt (m : Int) = Int32.ofInt ((n ||| m : Nat) : Int) := by
  apply Int32.toBitVec_inj.mp
  rw [Int32.toBitVec_or, ze_bv, ze_bv, ze_bv, BitVec.ofNat_or]
theorem ze_xor (n m : Nat) : Int32.ofInt (n : Int) ^^^ Int32.ofInt (m : Int) = Int32.ofInt ((n ^^^ m : Nat) : Int) := by
  apply Int32.toBitVec_inj.mp
  rw [Int32.toBitVec_xor, ze_bv, ze_bv, ze_bv, BitVec.ofNat_xor]
theorem ze_nI (n : Nat) : Int32.ofInt (n : Int) = nI n := by
  apply Int32.toBitVec_inj.mp
  rw [ze_bv]; rfl
theorem nn_lt {a b : Nat} (ha : a < 2147483648) (hb : b < 2147483648) : (a ||| b) < 2147483648 := Nat.or_lt_two_pow (n := 31) ha hb
theorem iand_nn {n m : Nat} (hn : n < 2147483648) : iand (n : Int) (m : Int) = ((n &&& m : Nat) : Int) := by
  unfold iand
  have : (n &&& m) ≤ n := Nat.and_le_left
  rw [ze_and, zi_to ⟨by omega, by omega⟩]
theorem iorr_nn {n m : Nat} (hn : n < 2147483648) (hm : m < 2147483648) : iorr (n : Int) (m : Int) = ((n ||| m : Nat) : Int) := by
  unfold iorr
  have := nn_lt hn hm
  rw [ze_or, zi_to ⟨by omega, by omega⟩]
theorem ze_sm : ∀ s : Nat, s < 32 → ((Int32.ofInt (s : Int) &&& 31).toBitVec.smod 32).toNat = s := by decide +kernel
theorem ishl_nn {n s : Nat} (hs : s < 32) (h : n * 2 ^ s < 2147483648) : ishl (n : Int) (s : Int) = ((n * 2 ^ s : Nat) : Int) := by
  unfold ishl
  rw [ze_nI n, pk_shlN (n := n) _ s (ze_sm s hs) (by omega), ← ze_nI, zi_to ⟨by omega, by omega⟩]
theorem ishr_nn {n s : Nat} (hs : s < 32) (h : n < 2147483648) : ishr (n : Int) (s : Int) = ((n / 2 ^ s : Nat) : Int) := by
  unfold ishr
  have : n / 2 ^ s ≤ n := Nat.div_le_self _ _
  rw [ze_nI n, pk_shrN (n := n) (by omega) _ s (ze_sm s hs), ← ze_nI]
  generalize n / 2 ^ s = q at this ⊢
  exact zi_to ⟨by omega, by omega⟩
/-- bit k of a set -/
def hb (s k : Int) : Int := iand (ishr s k) 1
theorem hb_nn {n k : Nat} (hk : k < 32) (h : n < 2147483648) : hb (n : Int) (k : Int) = if n.testBit k then 1 else 0 := by
  unfold hb
  rw [ishr_nn hk h]
  have : n / 2 ^ k ≤ n := Nat.div_le_self _ _
  rw [show (1 : Int) = ((1 : Nat) : Int) from rfl, iand_nn (by omega), Nat.and_one_is_mod, Nat.testBit_eq_decide_div_mod_eq]
  by_cases h1 : n / 2 ^ k % 2 = 1
  · simp [h1]
  · have h0 : n / 2 ^ k % 2 = 0 := by omega
    simp [h0]
theorem ixor_sign {a b : Int} (ha : inR a) (hb : inR b) : ixor a b < 0 ↔ ¬ (a < 0 ↔ b < 0) := by
  have key : ∀ x : Int32, x.toInt < 0 ↔ x.toBitVec.msb = true := by
    intro x
    show x.toBitVec.toInt < 0 ↔ _
    rw [BitVec.toInt_neg_iff, BitVec.msb_eq_decide]
    constructor
    · intro h; simp; omega
    · intro h; simp at h; omega
  unfold ixor
  have h1 := key (Int32.ofInt a)
  have h2 := key (Int32.ofInt b)
  rw [zi_to ha] at h1
  rw [zi_to hb] at h2
  rw [key, Int32.toBitVec_xor, BitVec.msb_xor, h1, h2]
  cases (Int32.ofInt a).toBitVec.msb <;> cases (Int32.ofInt b).toBitVec.msb <;> simp

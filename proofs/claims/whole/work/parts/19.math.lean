theorem plain_min : plainFor yJ9_min_7cf53 = true := by decide +kernel
theorem plain_floorMod : plainFor yJ9_floorMod_7cf53 = true := by decide +kernel
theorem ixor_rg (a b : Int) : inR (ixor a b) := by
  unfold ixor
  generalize Int32.ofInt a ^^^ Int32.ofInt b = x
  have h1 := Int32.le_toInt x
  have h2 := Int32.toInt_lt x
  exact ⟨by simpa using h1, by simpa using h2⟩
theorem ixor_neg {a b : Int} (ha : inR a) (hb : inR b) (h0 : 0 ≤ b) : (ixor a b < 0) ↔ a < 0 := by
  have e : ∀ x : Int32, (x.toInt < 0) ↔ x.toBitVec.msb = true := by
    intro x
    show x.toBitVec.toInt < 0 ↔ _
    rw [BitVec.msb_eq_toInt]
    simp
  have h1 : (Int32.ofInt a).toInt = a := zi_to ha
  have h2 : (Int32.ofInt b).toInt = b := zi_to hb
  have e1 := e (Int32.ofInt a)
  have e2 := e (Int32.ofInt b)
  rw [h1] at e1
  rw [h2] at e2
  unfold ixor
  rw [e, Int32.toBitVec_xor, BitVec.msb_xor, e1]
  have : (Int32.ofInt b).toBitVec.msb = false := by
    cases h : (Int32.ofInt b).toBitVec.msb
    · rfl
    · exact absurd (e2.mpr h) (by omega)
  rw [this]
  simp
theorem fm_a {a b : Int} (hb : 0 < b) (h : ¬ a < 0 ∨ a.tmod b = 0) : a.tmod b = a % b := by
  rw [Int.tmod_eq_emod] at h ⊢
  split
  · omega
  · rename_i hn
    rw [if_neg hn] at h
    have h1 : ¬ 0 ≤ a := fun h => hn (Or.inl h)
    rcases h with h | h
    · omega
    · have := Int.emod_lt_of_pos a hb
      omega
theorem fm_b {a b : Int} (hb : 0 < b) (h1 : a < 0) (h : ¬ a.tmod b = 0) : a.tmod b + b = a % b := by
  have hd : ¬ b ∣ a := fun hd => h (Int.tmod_eq_zero_of_dvd hd)
  rw [Int.tmod_eq_emod, if_neg (by rintro (h2 | h2); omega; exact hd h2)]
  omega

set_option maxRecDepth 20000 in
theorem s_min {μ : Mem} {a b : Int} (ha : inR a) (hb : inR b) : SP mJ9_min_7cf53 [vi a, vi b] μ (fun w m => w = vi (min a b) ∧ m = μ) := by
  refine SP_introF (ls := [vi a, vi b]) plain_min rfl (Nat.le_of_ble_eq_true rfl) rfl (fun X hX => ?_)
  refine V_iloadn (pc := 0) dJ9_min_7cf53_0 rfl ?_
  refine V_iloadn (pc := 1) dJ9_min_7cf53_1 rfl ?_
  refine V_icmp_gt (pc := 2) (tgt := 9) dJ9_min_7cf53_2 (by decide) (by omega) (by omega) (fun h2 => ?_) (fun h2 => ?_)
  · refine V_iloadn (pc := 9) dJ9_min_7cf53_9 rfl ?_
    refine V_iret hX dJ9_min_7cf53_10 rfl ?_
    exact ⟨by congr 1; omega, rfl⟩
  · refine V_iloadn (pc := 5) dJ9_min_7cf53_5 rfl ?_
    refine V_goto (pc := 6) (tgt := 10) dJ9_min_7cf53_6 (by decide) ?_
    refine V_iret hX dJ9_min_7cf53_10 rfl ?_
    exact ⟨by congr 1; omega, rfl⟩

set_option maxRecDepth 20000 in
theorem s_floorMod {μ : Mem} {a b : Int} (ha : inR a) (hb : 0 < b) (hb2 : b < 1000) : SP mJ9_floorMod_7cf53 [vi a, vi b] μ (fun w m => w = vi (a % b) ∧ m = μ) := by
  refine SP_introF (ls := [vi a, vi b, un]) plain_floorMod rfl (Nat.le_of_ble_eq_true rfl) rfl (fun X hX => ?_)
  have hbR : inR b := ⟨by omega, by omega⟩
  have hm1 := Int.tmod_lt_of_pos a hb
  have hm2 : -b < a.tmod b := by have := Int.lt_tmod_of_pos a hb; omega
  have hx := ixor_neg ha hbR (by omega)
  have hxr := ixor_rg a b
  have hqa := Int.natAbs_tdiv_le_natAbs a b
  have hqb : a < 0 → a.tdiv b ≤ 0 := fun h => by have h1 := Int.tdiv_nonneg (a := -a) (b := b) (by omega) (by omega); rw [Int.neg_tdiv] at h1; omega
  refine V_iloadn (pc := 0) dJ9_floorMod_7cf53_0 rfl ?_
  refine V_iloadn (pc := 1) dJ9_floorMod_7cf53_1 rfl ?_
  refine V_irem (pc := 2) dJ9_floorMod_7cf53_2 (by omega) (by omega) (by omega) ⟨by omega, by omega⟩ ?_
  refine V_istore_2 (pc := 3) dJ9_floorMod_7cf53_3 (by decide) rfl ?_
  refine V_iloadn (pc := 4) dJ9_floorMod_7cf53_4 rfl ?_
  refine V_iloadn (pc := 5) dJ9_floorMod_7cf53_5 rfl ?_
  refine V_ixor (pc := 6) dJ9_floorMod_7cf53_6 ?_
  refine V_if_ge (pc := 7) (tgt := 18) dJ9_floorMod_7cf53_7 (by decide) (by omega) (fun h7 => ?_) (fun h7 => ?_)
  · refine V_iloadn (pc := 18) dJ9_floorMod_7cf53_18 rfl ?_
    refine V_iret hX dJ9_floorMod_7cf53_19 rfl ?_
    exact ⟨by rw [fm_a hb (by first | exact Or.inr (by omega) | exact Or.inl (fun h => by have := hx.mpr h; omega))], rfl⟩
  · refine V_iloadn (pc := 10) dJ9_floorMod_7cf53_10 rfl ?_
    refine V_if_eq (pc := 11) (tgt := 18) dJ9_floorMod_7cf53_11 (by decide) (by omega) (fun h11 => ?_) (fun h11 => ?_)
    · refine V_iloadn (pc := 18) dJ9_floorMod_7cf53_18 rfl ?_
      refine V_iret hX dJ9_floorMod_7cf53_19 rfl ?_
      exact ⟨by rw [fm_a hb (by first | exact Or.inr (by omega) | exact Or.inl (fun h => by have := hx.mpr h; omega))], rfl⟩
    · refine V_iloadn (pc := 14) dJ9_floorMod_7cf53_14 rfl ?_
      refine V_iloadn (pc := 15) dJ9_floorMod_7cf53_15 rfl ?_
      refine V_iadd (pc := 16) dJ9_floorMod_7cf53_16 ?_
      refine V_iret hX dJ9_floorMod_7cf53_17 rfl ?_
      exact ⟨by rw [fm_b hb (hx.mp (by omega)) (by omega)], rfl⟩

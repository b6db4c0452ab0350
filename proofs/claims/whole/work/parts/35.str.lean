theorem s_pcheck {μ : Mem} {i n : Int} {v : AV} (hv : v = un ∨ v = vs 9) (h0 : 0 ≤ i) (h1 : i < n) (h2 : n ≤ 1000) : SP mJ3_checkIndex_8e157 [vi i, vi n, v] μ (fun w m => w = vi i ∧ m = μ) := by
  have hl : es [vi i, vi n, v] ++ List.replicate (3 - (es [vi i, vi n, v]).length) un = [vi i, vi n, v] := by rcases hv with rfl | rfl <;> rfl
  have hn : (es [vi i, vi n, v]).length ≤ 3 := by rcases hv with rfl | rfl <;> exact Nat.le_of_ble_eq_true rfl
  refine SP_introF (ls := [vi i, vi n, v]) (by decide +kernel) rfl hn hl (fun X hX => ?_)
  refine V_iloadn (pc := 0) dJ3_checkIndex_8e157_0 rfl ?_
  refine V_if_lt (pc := 1) (tgt := 9) dJ3_checkIndex_8e157_1 (by decide) (by omega) (fun h1 => ?_) (fun h1 => ?_)
  · exfalso; omega
  · refine V_iloadn (pc := 4) dJ3_checkIndex_8e157_4 rfl ?_
    refine V_iloadn (pc := 5) dJ3_checkIndex_8e157_5 rfl ?_
    refine V_icmp_lt (pc := 6) (tgt := 16) dJ3_checkIndex_8e157_6 (by decide) (by omega) (by omega) (fun h6 => ?_) (fun h6 => ?_)
    · refine V_iloadn (pc := 16) dJ3_checkIndex_8e157_16 rfl ?_
      refine V_iret hX dJ3_checkIndex_8e157_17 rfl ?_
      exact ⟨rfl, rfl⟩
    · exfalso; omega

set_option maxRecDepth 20000 in
theorem s_scheck {μ : Mem} {i n : Int} (h0 : 0 ≤ i) (h1 : i < n) (h2 : n ≤ 1000) : SP mJ0_checkIndex_df160 [vi i, vi n] μ (fun w m => w = un ∧ m = μ) := by
  refine SP_introF (ls := [vi i, vi n]) (by decide +kernel) rfl (Nat.le_of_ble_eq_true rfl) rfl (fun X hX => ?_)
  refine V_iloadn (pc := 0) dJ0_checkIndex_df160_0 rfl ?_
  refine V_iloadn (pc := 1) dJ0_checkIndex_df160_1 rfl ?_
  refine V_getq (pc := 2) dJ0_checkIndex_df160_2 rfl (fun v hv => ?_)
  refine V_cs3 (pc := 5) dJ0_checkIndex_df160_5 kJ0_1059 (by decide) (Nat.le_of_ble_eq_true rfl) (s_pcheck hv h0 h1 h2) rfl ?_
  refine V_pop (pc := 8) dJ0_checkIndex_df160_8 ?_
  refine V_vret (x := 0) hX dJ0_checkIndex_df160_9 rfl ?_
  exact ⟨rfl, rfl⟩

theorem wB_a : ∀ j, j < 3 → ∀ i, i < 6 → ((Int32.ofInt (iand (wB j i) 255)).toUInt32 % 65536).toInt32 = Int32.ofInt (iand (wB j i) 255) ∧ narrow .char (.int (Int32.ofInt (iand (wB j i) 255))) = .int (Int32.ofInt (iand (wB j i) 255)) ∧ iand (wB j i) 255 = wB j i ∧ (0 ≤ wB j i ∧ wB j i ≤ 122) := by decide +kernel
theorem slN_a : ∀ j, j < 3 → ishr (slN j) 0 = slN j := by decide +kernel
theorem slN_up (j : Nat) : (slN j : Int) ≤ 6 := by have := slN_le j; omega

set_option maxRecDepth 20000 in
theorem s_lcharAt {μ : Mem} {j : Nat} (hj : j < 3) {i : Int} (h0 : 0 ≤ i) (h1 : i < slN j) : SP mJ1_charAt_3b067 [vs (j + 3), vi i] μ (fun w m => w = vi (wB j i.toNat) ∧ m = μ) := by
  refine SP_introF (ls := [vs (j + 3), vi i]) (by decide +kernel) rfl (Nat.le_of_ble_eq_true rfl) rfl (fun X hX => ?_)
  have hu := slN_up j
  obtain ⟨hw1, hw2, hw3, hw4⟩ := wB_a j hj i.toNat (by omega)
  refine V_iloadn (pc := 0) dJ1_charAt_3b067_0 rfl ?_
  refine V_sloadn (pc := 1) dJ1_charAt_3b067_1 rfl ?_
  refine V_slen (pc := 2) dJ1_charAt_3b067_2 hj ?_
  refine V_ct2 (pc := 3) dJ1_charAt_3b067_3 kJ1_9 (by decide) (Nat.le_of_ble_eq_true rfl) (s_scheck h0 h1 (by omega)) ?_
  refine V_sloadn (pc := 6) dJ1_charAt_3b067_6 rfl ?_
  refine V_iloadn (pc := 7) dJ1_charAt_3b067_7 rfl ?_
  refine V_sbal (pc := 8) dJ1_charAt_3b067_8 hj (by omega) (by omega) ?_
  refine V_sipush (pc := 9) dJ1_charAt_3b067_9 (by decide +kernel) ?_
  refine V_iand (pc := 12) dJ1_charAt_3b067_12 ?_
  refine V_i2c (pc := 13) dJ1_charAt_3b067_13 hw1 ?_
  refine V_nret hX dJ1_charAt_3b067_14 rfl hw2 ?_
  exact ⟨by rw [hw3], rfl⟩

set_option maxRecDepth 20000 in
theorem s_isLatin1 {μ : Mem} {j : Nat} (hj : j < 3) : SP mJ0_isLatin1_aae02 [vs j] μ (fun w m => w = vi 1 ∧ m = μ) := by
  refine SP_introF (ls := [vs j]) (by decide +kernel) rfl (Nat.le_of_ble_eq_true rfl) rfl (fun X hX => ?_)
  refine V_gets1 (pc := 0) dJ0_isLatin1_aae02_0 rfl ?_
  refine V_if_eq (pc := 3) (tgt := 17) dJ0_isLatin1_aae02_3 (by decide) (by decide) (fun h3 => ?_) (fun h3 => ?_)
  · exfalso; omega
  · refine V_sloadn (pc := 6) dJ0_isLatin1_aae02_6 rfl ?_
    refine V_scod (pc := 7) dJ0_isLatin1_aae02_7 rfl hj ?_
    refine V_if_ne (pc := 10) (tgt := 17) dJ0_isLatin1_aae02_10 (by decide) (by decide) (fun h10 => ?_) (fun h10 => ?_)
    · exfalso; omega
    · refine V_iconst (pc := 13) dJ0_isLatin1_aae02_13 ?_
      refine V_goto (pc := 14) (tgt := 18) dJ0_isLatin1_aae02_14 (by decide) ?_
      refine V_zret hX dJ0_isLatin1_aae02_18 rfl (by first | exact Or.inl rfl | exact Or.inr rfl | exact bi_01 _) ?_
      exact ⟨rfl, rfl⟩

set_option maxRecDepth 20000 in
theorem s_coder {μ : Mem} {j : Nat} (hj : j < 3) : SP mJ0_coder_7d493 [vs j] μ (fun w m => w = vi 0 ∧ m = μ) := by
  refine SP_introF (ls := [vs j]) (by decide +kernel) rfl (Nat.le_of_ble_eq_true rfl) rfl (fun X hX => ?_)
  refine V_gets1 (pc := 0) dJ0_coder_7d493_0 rfl ?_
  refine V_if_eq (pc := 3) (tgt := 13) dJ0_coder_7d493_3 (by decide) (by decide) (fun h3 => ?_) (fun h3 => ?_)
  · exfalso; omega
  · refine V_sloadn (pc := 6) dJ0_coder_7d493_6 rfl ?_
    refine V_scod (pc := 7) dJ0_coder_7d493_7 rfl hj ?_
    refine V_goto (pc := 10) (tgt := 14) dJ0_coder_7d493_10 (by decide) ?_
    refine V_nret hX dJ0_coder_7d493_14 rfl (by rfl) ?_
    exact ⟨rfl, rfl⟩

set_option maxRecDepth 20000 in
theorem s_charAt {μ : Mem} {j : Nat} (hj : j < 3) {i : Int} (h0 : 0 ≤ i) (h1 : i < slN j) : SP mJ0_charAt_5068e [vs j, vi i] μ (fun w m => w = vi (wB j i.toNat) ∧ m = μ) := by
  refine SP_introF (ls := [vs j, vi i]) (by decide +kernel) rfl (Nat.le_of_ble_eq_true rfl) rfl (fun X hX => ?_)
  have hu := slN_up j
  obtain ⟨hw1, hw2, hw3, hw4⟩ := wB_a j hj i.toNat (by omega)
  rw [hw3] at hw2
  refine V_sloadn (pc := 0) dJ0_charAt_5068e_0 rfl ?_
  refine V_cS0 (pc := 1) dJ0_charAt_5068e_1 kJ0_492 hj (by decide) (Nat.le_of_ble_eq_true rfl) (s_isLatin1 hj) rfl ?_
  refine V_if_eq (pc := 4) (tgt := 16) dJ0_charAt_5068e_4 (by decide) (by omega) (fun h4 => ?_) (fun h4 => ?_)
  · exfalso; omega
  · refine V_sloadn (pc := 7) dJ0_charAt_5068e_7 rfl ?_
    refine V_sval (pc := 8) dJ0_charAt_5068e_8 rfl hj ?_
    refine V_iloadn (pc := 11) dJ0_charAt_5068e_11 rfl ?_
    refine V_cs2 (pc := 12) dJ0_charAt_5068e_12 kJ0_495 (by decide) (Nat.le_of_ble_eq_true rfl) (s_lcharAt hj h0 h1) rfl ?_
    refine V_nret hX dJ0_charAt_5068e_15 rfl hw2 ?_
    exact ⟨rfl, rfl⟩

set_option maxRecDepth 20000 in
theorem s_strLen {μ : Mem} {j : Nat} (hj : j < 3) : SP mJ0_length_8abf5 [vs j] μ (fun w m => w = vi (slN j) ∧ m = μ) := by
  refine SP_introF (ls := [vs j]) (by decide +kernel) rfl (Nat.le_of_ble_eq_true rfl) rfl (fun X hX => ?_)
  refine V_sloadn (pc := 0) dJ0_length_8abf5_0 rfl ?_
  refine V_sval (pc := 1) dJ0_length_8abf5_1 rfl hj ?_
  refine V_slen (pc := 4) dJ0_length_8abf5_4 hj ?_
  refine V_sloadn (pc := 5) dJ0_length_8abf5_5 rfl ?_
  refine V_cS0 (pc := 6) dJ0_length_8abf5_6 kJ0_335 hj (by decide) (Nat.le_of_ble_eq_true rfl) (s_coder hj) rfl ?_
  refine V_ishr (pc := 9) dJ0_length_8abf5_9 ?_
  refine V_iret hX dJ0_length_8abf5_10 rfl ?_
  exact ⟨by rw [slN_a j hj], rfl⟩

/-- the word j stands at f, as far as from place k on -/
def wMt (μ : Mem) (f : Int) (j k : Nat) : Prop := ∀ i, k ≤ i → i < slN j → sg μ (f + i) = wB j i
def isW (μ : Mem) (f : Int) (j : Nat) : Prop := μ 64 2 - f = slN j ∧ wMt μ f j 0
theorem wMt_step {μ : Mem} {f : Int} {j k : Nat} (h : sg μ (f + k) = wB j k) : wMt μ f j (k + 1) ↔ wMt μ f j k := by
  constructor
  · intro q i h1 h2
    by_cases e : i = k
    · subst e; exact h
    · exact q i (by omega) h2
  · intro q i h1 h2
    exact q i (by omega) h2
theorem sg_rg {μ : Mem} (hb : ∀ i, 0 ≤ μ 17 i ∧ μ 17 i ≤ 255) (a : Int) : -1 ≤ sg μ a ∧ sg μ a ≤ 255 := by
  unfold sg
  split
  · have := hb a.toNat; omega
  · omega

section
variable {X : ZX}
set_option maxRecDepth 20000 in
theorem isWord_loop {μ : Mem} (hT : TOK μ) (hb8 : ∀ i, 0 ≤ μ 17 i ∧ μ 17 i ≤ 255) (hat : 0 ≤ μ 64 2 ∧ μ 64 2 ≤ 400) {f : Int} (hf : 0 ≤ f ∧ f ≤ 400) {j : Nat} (hj : j < 3) {c : Int} (hc : wMt μ f j 0 → c = 1) (hc2 : ¬ wMt μ f j 0 → c = 0) (hX : isM X (fun w m => w = vi c ∧ m = μ)) : ∀ (n : Nat) (k : Nat), (slN j - k = n) → (k ≤ slN j) → (wMt μ f j k ↔ wMt μ f j 0) → V X mX7_isWord 17 [vr 64, vi f, vs j, vi (k : Int)] [] μ := by
  intro n
  induction n with
  | zero =>
    intro k hn hk hw
    have hu := slN_up j
    have hs := sg_rg hb8 (f + k)
    refine V_iloadn (pc := 17) dX7_isWord_17 rfl ?_
    refine V_sloadn (pc := 18) dX7_isWord_18 rfl ?_
    refine V_cS0 (pc := 19) dX7_isWord_19 kX7_121 hj (by decide) (Nat.le_of_ble_eq_true rfl) (s_strLen hj) rfl ?_
    refine V_icmp_ge (pc := 22) (tgt := 51) dX7_isWord_22 (by decide) (by omega) (by omega) (fun h22 => ?_) (fun h22 => ?_)
    · refine V_iconst (pc := 51) dX7_isWord_51 ?_
      refine V_zret hX dX7_isWord_52 rfl (by first | exact Or.inl rfl | exact Or.inr rfl | exact bi_01 _) ?_
      exact ⟨by rw [hc (hw.mp (fun i h1 h2 => by omega))], rfl⟩
    · exfalso; omega
  | succ n ih =>
    intro k hn hk hw
    have hu := slN_up j
    have hs := sg_rg hb8 (f + k)
    have hkk : (k : Int).toNat = k := by omega
    refine V_iloadn (pc := 17) dX7_isWord_17 rfl ?_
    refine V_sloadn (pc := 18) dX7_isWord_18 rfl ?_
    refine V_cS0 (pc := 19) dX7_isWord_19 kX7_121 hj (by decide) (Nat.le_of_ble_eq_true rfl) (s_strLen hj) rfl ?_
    refine V_icmp_ge (pc := 22) (tgt := 51) dX7_isWord_22 (by decide) (by omega) (by omega) (fun h22 => ?_) (fun h22 => ?_)
    · refine V_iconst (pc := 51) dX7_isWord_51 ?_
      refine V_zret hX dX7_isWord_52 rfl (by first | exact Or.inl rfl | exact Or.inr rfl | exact bi_01 _) ?_
      exact ⟨by rw [hc (hw.mp (fun i h1 h2 => by omega))], rfl⟩
    · refine V_aloadn (pc := 25) dX7_isWord_25 rfl ?_
      refine V_getr (pc := 26) dX7_isWord_26 fX7_15 zk_64 zr_64_0 ?_
      refine V_iloadn (pc := 29) dX7_isWord_29 rfl ?_
      refine V_iloadn (pc := 30) dX7_isWord_30 rfl ?_
      refine V_iadd (pc := 31) dX7_isWord_31 ?_
      refine V_cv1 (pc := 32) dX7_isWord_32 kX7_105 zk_16 (by decide) (Nat.le_of_ble_eq_true rfl) (s_signAt hT (by omega)) rfl ?_
      refine V_sloadn (pc := 35) dX7_isWord_35 rfl ?_
      refine V_iloadn (pc := 36) dX7_isWord_36 rfl ?_
      refine V_cS1 (pc := 37) dX7_isWord_37 kX7_124 hj (by decide) (Nat.le_of_ble_eq_true rfl) (s_charAt hj (by omega) (by omega)) rfl ?_
      obtain ⟨-, -, -, hw4⟩ := wB_a j hj (k : Int).toNat (by omega)
      refine V_icmp_eq (pc := 40) (tgt := 45) dX7_isWord_40 (by decide) (by omega) (by omega) (fun h40 => ?_) (fun h40 => ?_)
      · refine V_iinc_3 (pc := 45) dX7_isWord_45 (by decide) rfl ?_
        refine V_goto (pc := 48) (tgt := 17) dX7_isWord_48 (by decide) ?_
        exact ih (k + 1) (by omega) (by omega) ((wMt_step (by rw [hkk] at h40; omega)).trans hw)
      · refine V_iconst (pc := 43) dX7_isWord_43 ?_
        refine V_zret hX dX7_isWord_44 rfl (by first | exact Or.inl rfl | exact Or.inr rfl | exact bi_01 _) ?_
        exact ⟨by rw [hc2 (fun q => by have q1 := hw.mpr q k (Nat.le_refl _) (by omega); rw [hkk] at h40; omega)], rfl⟩
end

set_option maxRecDepth 20000 in
theorem s_isWord {μ : Mem} (hT : TOK μ) (hb8 : ∀ i, 0 ≤ μ 17 i ∧ μ 17 i ≤ 255) (hat : 0 ≤ μ 64 2 ∧ μ 64 2 ≤ 400) {f : Int} (hf : 0 ≤ f ∧ f ≤ 400) {j : Nat} (hj : j < 3) {c : Int} (hc : isW μ f j → c = 1) (hc2 : ¬ isW μ f j → c = 0) : SP mX7_isWord [vr 64, vi f, vs j] μ (fun w m => w = vi c ∧ m = μ) := by
  refine SP_intro (ls := [vr 64, vi f, vs j, un]) (by decide +kernel) rfl rfl (Nat.le_of_ble_eq_true rfl) rfl (fun X hX => ?_)
  have hu := slN_up j
  refine V_aloadn (pc := 0) dX7_isWord_0 rfl ?_
  refine V_geti (r := 0) (pc := 1) dX7_isWord_1 fX7_26 zk_64 ?_
  refine V_iloadn (pc := 4) dX7_isWord_4 rfl ?_
  refine V_isub (pc := 5) dX7_isWord_5 ?_
  refine V_sloadn (pc := 6) dX7_isWord_6 rfl ?_
  refine V_cS0 (pc := 7) dX7_isWord_7 kX7_121 hj (by decide) (Nat.le_of_ble_eq_true rfl) (s_strLen hj) rfl ?_
  refine V_icmp_eq (pc := 10) (tgt := 15) dX7_isWord_10 (by decide) (by omega) (by omega) (fun h10 => ?_) (fun h10 => ?_)
  · refine V_iconst (pc := 15) dX7_isWord_15 ?_
    refine V_istore_3 (pc := 16) dX7_isWord_16 (by decide) rfl ?_
    exact isWord_loop hT hb8 hat hf hj (fun q => hc ⟨by omega, q⟩) (fun q => hc2 (fun q2 => q q2.2)) hX (slN j - 0) 0 rfl (by omega) Iff.rfl
  · refine V_iconst (pc := 13) dX7_isWord_13 ?_
    refine V_zret hX dX7_isWord_14 rfl (by first | exact Or.inl rfl | exact Or.inr rfl | exact bi_01 _) ?_
    exact ⟨by rw [hc2 (fun q => by have := q.1; omega)], rfl⟩

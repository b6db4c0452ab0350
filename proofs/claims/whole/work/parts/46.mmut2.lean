/-- t tellings of post p are as far says -/
def mst (m : Mem) (p t : Int) : Mem := fun a b => if a = 272 ∧ 9 * p ≤ b ∧ (b : Int) < 9 * p + t then m 268 b else m a b
theorem mst_out {m : Mem} {p t : Int} {a : Nat} (h : a ≠ 272) : mst m p t a = m a := by funext b; simp [mst, h]
theorem mst_0 {m : Mem} {p : Int} : mst m p 0 = m := by
  funext a b; unfold mst; rw [if_neg (by omega)]
theorem mst_s {m : Mem} {p t : Int} (hp : 0 ≤ p) (ht : 0 ≤ t) : mu (mst m p t) 272 (9 * p + t).toNat (m 268 (9 * p + t).toNat) = mst m p (t + 1) := by
  funext a b
  simp only [mu, mst]
  by_cases h : a = 272 ∧ b = (9 * p + t).toNat
  · rw [if_pos h, if_pos (show a = 272 ∧ 9 * p ≤ b ∧ (b : Int) < 9 * p + (t + 1) by omega), h.2]
  · rw [if_neg h]
    by_cases h2 : a = 272 ∧ 9 * p ≤ b ∧ (b : Int) < 9 * p + t
    · rw [if_pos h2, if_pos (show a = 272 ∧ 9 * p ≤ b ∧ (b : Int) < 9 * p + (t + 1) by omega)]
    · rw [if_neg h2, if_neg (show ¬ (a = 272 ∧ 9 * p ≤ b ∧ (b : Int) < 9 * p + (t + 1)) by omega)]
/-- post p is not as it should be, as far as its first t tellings show -/
abbrev oth (m : Mem) (p : Int) (t : Nat) : Prop := ¬ (m 270 p.toNat = 0 ∧ m 271 p.toNat = 0 ∧ ∀ u : Nat, u < t → ¬ (0 ≤ m 269 (9 * p + u).toNat ∧ ¬ m 272 (9 * p + u).toNat = m 268 (9 * p + u).toNat))
def mRp (m : Mem) (p : Int) : Mem := mu (mu (mst m p (m 256 0)) 270 p.toNat 0) 271 p.toNat 0
def mrt (s : Int) : Nat → Int → Int → Mem → Int × Mem
  | 0, _, c, m => (c, m)
  | n + 1, p, c, m => if hb s p = 1 then mrt s n (p + 1) (c + bi (oth m p (m 256 0).toNat)) (mRp m p) else mrt s n (p + 1) c m
theorem mrt_s {s : Int} {n : Nat} {p c : Int} {m : Mem} : mrt s (n + 1) p c m = if hb s p = 1 then mrt s n (p + 1) (c + bi (oth m p (m 256 0).toNat)) (mRp m p) else mrt s n (p + 1) c m := rfl
theorem MB_mRp {m : Mem} (h : MB m) {p : Int} : MB (mRp m p) := by
  obtain ⟨b0, b1, b2, b3, b4, b5, b6, b7⟩ := h
  unfold mRp
  refine ⟨?_, fun q => ?_, fun q => ?_, fun q => ?_, fun q => ?_, fun q => ?_, fun q => ?_, ?_⟩
  · rw [mu_c (by decide), mu_c (by decide), mst_out (by decide)]; exact b0
  · rw [mu_c (by decide), mu_c (by decide), mst_out (by decide)]; exact b1 q
  · rw [mu_c (by decide), mu_ap, mst_out (by decide)]; split; decide; exact b2 q
  · rw [mu_ap, mu_c (by decide), mst_out (by decide)]; split; decide; exact b3 q
  · rw [mu_c (by decide), mu_c (by decide), mst_out (by decide)]; exact b4 q
  · rw [mu_c (by decide), mu_c (by decide), mst_out (by decide)]; exact b5 q
  · rw [mu_c (by decide), mu_c (by decide)]; unfold mst; split; exact b4 q; exact b6 q
  · rw [mu_c (by decide), mu_c (by decide), mst_out (by decide)]; exact b7

set_option maxRecDepth 20000 in
theorem l_mstT {m : Mem} (hB : MB m) {s c p : Int} (hp : 0 ≤ p ∧ p < m 256 0) {X : ZX} (hex : ∀ t, V X mX12_setRight 141 [vr 256, vi s, vi c, vi p, vi (bi (oth m p (m 256 0).toNat)), vi t] [] (mst m p (m 256 0))) : ∀ (n : Nat) (t : Int), (t + n = m 256 0) → (0 ≤ t) → V X mX12_setRight 48 [vr 256, vi s, vi c, vi p, vi (bi (oth m p t.toNat)), vi t] [] (mst m p t) := by
  intro n
  induction n with
  | zero =>
    intro t h1 h2
    have q0 : mst m p t 256 0 = m 256 0 := by rw [mst_out (by decide)]
    have b0 := hB.1
    refine V_iload (pc := 48) dX12_setRight_48 rfl ?_
    refine V_aloadn (pc := 50) dX12_setRight_50 rfl ?_
    refine V_geti (r := 0) (pc := 51) dX12_setRight_51 fX12_118 zk_256 ?_
    rw [q0]
    refine V_icmp_ge (pc := 54) (tgt := 141) dX12_setRight_54 (by decide) (by omega) (by omega) (fun h54 => ?_) (fun h54 => ?_)
    · obtain rfl : t = m 256 0 := by omega
      exact hex _
    · exfalso; omega
  | succ n ih =>
    intro t h1 h2
    obtain ⟨b0, b1, b2, b3, b4, b5, b6, b7⟩ := id hB
    have q0 : mst m p t 256 0 = m 256 0 := by rw [mst_out (by decide)]
    have q9 : mst m p t 269 (9 * p + t).toNat = m 269 (9 * p + t).toNat := by rw [mst_out (by decide)]
    have q8 : mst m p t 268 (9 * p + t).toNat = m 268 (9 * p + t).toNat := by rw [mst_out (by decide)]
    have q2 : mst m p t 272 (9 * p + t).toNat = m 272 (9 * p + t).toNat := by unfold mst; rw [if_neg (by omega)]
    have c4 := b4 (9 * p + t).toNat
    have c5 := b5 (9 * p + t).toNat
    have c6 := b6 (9 * p + t).toNat
    have key : oth m p (t + 1).toNat ↔ oth m p t.toNat ∨ (0 ≤ m 269 (9 * p + t).toNat ∧ ¬ m 272 (9 * p + t).toNat = m 268 (9 * p + t).toNat) := by
      rw [show (t + 1).toNat = t.toNat + 1 by omega]
      constructor
      · intro h
        by_cases c1 : oth m p t.toNat
        · exact Or.inl c1
        · right
          apply Classical.byContradiction
          intro c2
          have c1 := Classical.not_not.mp c1
          refine h ⟨c1.1, c1.2.1, fun u hu => ?_⟩
          by_cases e : u < t.toNat
          · exact c1.2.2 u e
          · have e2 : (u : Int) = t := by omega
            rw [e2]; exact c2
      · intro h z
        rcases h with h | h
        · exact h ⟨z.1, z.2.1, fun u hu => z.2.2 u (by omega)⟩
        · have := z.2.2 t.toNat (by omega)
          rw [show ((t.toNat : Nat) : Int) = t by omega] at this
          exact this h
    refine V_iload (pc := 48) dX12_setRight_48 rfl ?_
    refine V_aloadn (pc := 50) dX12_setRight_50 rfl ?_
    refine V_geti (r := 0) (pc := 51) dX12_setRight_51 fX12_118 zk_256 ?_
    rw [q0]
    refine V_icmp_ge (pc := 54) (tgt := 141) dX12_setRight_54 (by decide) (by omega) (by omega) (fun h54 => ?_) (fun h54 => ?_)
    · exfalso; omega
    · refine V_iload (pc := 57) dX12_setRight_57 rfl ?_
      refine V_ifne_b (pc := 59) (tgt := 104) dX12_setRight_59 (by decide) (fun h59 => ?_) (fun h59 => ?_)
      · refine V_iconst (pc := 104) dX12_setRight_104 ?_
        refine V_goto (pc := 105) (tgt := 109) dX12_setRight_105 (by decide) ?_
        refine V_istore_4 (pc := 109) dX12_setRight_109 (by decide) rfl ?_
        refine V_aloadn (pc := 111) dX12_setRight_111 rfl ?_
        refine V_getr (pc := 112) dX12_setRight_112 fX12_46 zk_256 zr_256_15 ?_
        refine V_bipush (pc := 115) dX12_setRight_115 (by decide +kernel) ?_
        refine V_iloadn (pc := 117) dX12_setRight_117 rfl ?_
        refine V_imul (pc := 118) dX12_setRight_118 ?_
        refine V_iload (pc := 119) dX12_setRight_119 rfl ?_
        refine V_iadd (pc := 121) dX12_setRight_121 ?_
        refine V_aloadn (pc := 122) dX12_setRight_122 rfl ?_
        refine V_getr (pc := 123) dX12_setRight_123 fX12_34 zk_256 zr_256_11 ?_
        refine V_bipush (pc := 126) dX12_setRight_126 (by decide +kernel) ?_
        refine V_iloadn (pc := 128) dX12_setRight_128 rfl ?_
        refine V_imul (pc := 129) dX12_setRight_129 ?_
        refine V_iload (pc := 130) dX12_setRight_130 rfl ?_
        refine V_iadd (pc := 132) dX12_setRight_132 ?_
        refine V_iald (pc := 133) dX12_setRight_133 zk_268 (by omega) (by omega) (by decide) ?_
        rw [q8]
        refine V_iast (pc := 134) dX12_setRight_134 zk_272 (by omega) (by omega) (by decide) ?_
        rw [mst_s (by omega) (by omega)]
        refine V_iinc_5 (pc := 135) dX12_setRight_135 (by decide) rfl ?_
        refine V_goto (pc := 138) (tgt := 48) dX12_setRight_138 (by decide) ?_
        first
          | (have z := ih (t + 1) (by omega) (by omega)
             rw [bi_pos (c := oth m p (t + 1).toNat) (key.mpr (Or.inl (by assumption)))] at z
             exact z)
          | (have z := ih (t + 1) (by omega) (by omega)
             rw [bi_pos (c := oth m p (t + 1).toNat) (key.mpr (Or.inr ⟨by omega, by assumption⟩))] at z
             exact z)
          | (have z := ih (t + 1) (by omega) (by omega)
             rw [bi_neg (c := oth m p (t + 1).toNat) (fun h => by rcases key.mp h with h | h; exact absurd h (by assumption); exact absurd h (by omega))] at z
             exact z)
      · refine V_aloadn (pc := 62) dX12_setRight_62 rfl ?_
        refine V_getr (pc := 63) dX12_setRight_63 fX12_37 zk_256 zr_256_12 ?_
        refine V_bipush (pc := 66) dX12_setRight_66 (by decide +kernel) ?_
        refine V_iloadn (pc := 68) dX12_setRight_68 rfl ?_
        refine V_imul (pc := 69) dX12_setRight_69 ?_
        refine V_iload (pc := 70) dX12_setRight_70 rfl ?_
        refine V_iadd (pc := 72) dX12_setRight_72 ?_
        refine V_iald (pc := 73) dX12_setRight_73 zk_269 (by omega) (by omega) (by decide) ?_
        rw [q9]
        refine V_if_lt (pc := 74) (tgt := 108) dX12_setRight_74 (by decide) (by omega) (fun h74 => ?_) (fun h74 => ?_)
        · refine V_iconst (pc := 108) dX12_setRight_108 ?_
          refine V_istore_4 (pc := 109) dX12_setRight_109 (by decide) rfl ?_
          refine V_aloadn (pc := 111) dX12_setRight_111 rfl ?_
          refine V_getr (pc := 112) dX12_setRight_112 fX12_46 zk_256 zr_256_15 ?_
          refine V_bipush (pc := 115) dX12_setRight_115 (by decide +kernel) ?_
          refine V_iloadn (pc := 117) dX12_setRight_117 rfl ?_
          refine V_imul (pc := 118) dX12_setRight_118 ?_
          refine V_iload (pc := 119) dX12_setRight_119 rfl ?_
          refine V_iadd (pc := 121) dX12_setRight_121 ?_
          refine V_aloadn (pc := 122) dX12_setRight_122 rfl ?_
          refine V_getr (pc := 123) dX12_setRight_123 fX12_34 zk_256 zr_256_11 ?_
          refine V_bipush (pc := 126) dX12_setRight_126 (by decide +kernel) ?_
          refine V_iloadn (pc := 128) dX12_setRight_128 rfl ?_
          refine V_imul (pc := 129) dX12_setRight_129 ?_
          refine V_iload (pc := 130) dX12_setRight_130 rfl ?_
          refine V_iadd (pc := 132) dX12_setRight_132 ?_
          refine V_iald (pc := 133) dX12_setRight_133 zk_268 (by omega) (by omega) (by decide) ?_
          rw [q8]
          refine V_iast (pc := 134) dX12_setRight_134 zk_272 (by omega) (by omega) (by decide) ?_
          rw [mst_s (by omega) (by omega)]
          refine V_iinc_5 (pc := 135) dX12_setRight_135 (by decide) rfl ?_
          refine V_goto (pc := 138) (tgt := 48) dX12_setRight_138 (by decide) ?_
          first
            | (have z := ih (t + 1) (by omega) (by omega)
               rw [bi_pos (c := oth m p (t + 1).toNat) (key.mpr (Or.inl (by assumption)))] at z
               exact z)
            | (have z := ih (t + 1) (by omega) (by omega)
               rw [bi_pos (c := oth m p (t + 1).toNat) (key.mpr (Or.inr ⟨by omega, by assumption⟩))] at z
               exact z)
            | (have z := ih (t + 1) (by omega) (by omega)
               rw [bi_neg (c := oth m p (t + 1).toNat) (fun h => by rcases key.mp h with h | h; exact absurd h (by assumption); exact absurd h (by omega))] at z
               exact z)
        · refine V_aloadn (pc := 77) dX12_setRight_77 rfl ?_
          refine V_getr (pc := 78) dX12_setRight_78 fX12_46 zk_256 zr_256_15 ?_
          refine V_bipush (pc := 81) dX12_setRight_81 (by decide +kernel) ?_
          refine V_iloadn (pc := 83) dX12_setRight_83 rfl ?_
          refine V_imul (pc := 84) dX12_setRight_84 ?_
          refine V_iload (pc := 85) dX12_setRight_85 rfl ?_
          refine V_iadd (pc := 87) dX12_setRight_87 ?_
          refine V_iald (pc := 88) dX12_setRight_88 zk_272 (by omega) (by omega) (by decide) ?_
          rw [q2]
          refine V_aloadn (pc := 89) dX12_setRight_89 rfl ?_
          refine V_getr (pc := 90) dX12_setRight_90 fX12_34 zk_256 zr_256_11 ?_
          refine V_bipush (pc := 93) dX12_setRight_93 (by decide +kernel) ?_
          refine V_iloadn (pc := 95) dX12_setRight_95 rfl ?_
          refine V_imul (pc := 96) dX12_setRight_96 ?_
          refine V_iload (pc := 97) dX12_setRight_97 rfl ?_
          refine V_iadd (pc := 99) dX12_setRight_99 ?_
          refine V_iald (pc := 100) dX12_setRight_100 zk_268 (by omega) (by omega) (by decide) ?_
          rw [q8]
          refine V_icmp_eq (pc := 101) (tgt := 108) dX12_setRight_101 (by decide) (by omega) (by omega) (fun h101 => ?_) (fun h101 => ?_)
          · refine V_iconst (pc := 108) dX12_setRight_108 ?_
            refine V_istore_4 (pc := 109) dX12_setRight_109 (by decide) rfl ?_
            refine V_aloadn (pc := 111) dX12_setRight_111 rfl ?_
            refine V_getr (pc := 112) dX12_setRight_112 fX12_46 zk_256 zr_256_15 ?_
            refine V_bipush (pc := 115) dX12_setRight_115 (by decide +kernel) ?_
            refine V_iloadn (pc := 117) dX12_setRight_117 rfl ?_
            refine V_imul (pc := 118) dX12_setRight_118 ?_
            refine V_iload (pc := 119) dX12_setRight_119 rfl ?_
            refine V_iadd (pc := 121) dX12_setRight_121 ?_
            refine V_aloadn (pc := 122) dX12_setRight_122 rfl ?_
            refine V_getr (pc := 123) dX12_setRight_123 fX12_34 zk_256 zr_256_11 ?_
            refine V_bipush (pc := 126) dX12_setRight_126 (by decide +kernel) ?_
            refine V_iloadn (pc := 128) dX12_setRight_128 rfl ?_
            refine V_imul (pc := 129) dX12_setRight_129 ?_
            refine V_iload (pc := 130) dX12_setRight_130 rfl ?_
            refine V_iadd (pc := 132) dX12_setRight_132 ?_
            refine V_iald (pc := 133) dX12_setRight_133 zk_268 (by omega) (by omega) (by decide) ?_
            rw [q8]
            refine V_iast (pc := 134) dX12_setRight_134 zk_272 (by omega) (by omega) (by decide) ?_
            rw [mst_s (by omega) (by omega)]
            refine V_iinc_5 (pc := 135) dX12_setRight_135 (by decide) rfl ?_
            refine V_goto (pc := 138) (tgt := 48) dX12_setRight_138 (by decide) ?_
            first
              | (have z := ih (t + 1) (by omega) (by omega)
                 rw [bi_pos (c := oth m p (t + 1).toNat) (key.mpr (Or.inl (by assumption)))] at z
                 exact z)
              | (have z := ih (t + 1) (by omega) (by omega)
                 rw [bi_pos (c := oth m p (t + 1).toNat) (key.mpr (Or.inr ⟨by omega, by assumption⟩))] at z
                 exact z)
              | (have z := ih (t + 1) (by omega) (by omega)
                 rw [bi_neg (c := oth m p (t + 1).toNat) (fun h => by rcases key.mp h with h | h; exact absurd h (by assumption); exact absurd h (by omega))] at z
                 exact z)
          · refine V_iconst (pc := 104) dX12_setRight_104 ?_
            refine V_goto (pc := 105) (tgt := 109) dX12_setRight_105 (by decide) ?_
            refine V_istore_4 (pc := 109) dX12_setRight_109 (by decide) rfl ?_
            refine V_aloadn (pc := 111) dX12_setRight_111 rfl ?_
            refine V_getr (pc := 112) dX12_setRight_112 fX12_46 zk_256 zr_256_15 ?_
            refine V_bipush (pc := 115) dX12_setRight_115 (by decide +kernel) ?_
            refine V_iloadn (pc := 117) dX12_setRight_117 rfl ?_
            refine V_imul (pc := 118) dX12_setRight_118 ?_
            refine V_iload (pc := 119) dX12_setRight_119 rfl ?_
            refine V_iadd (pc := 121) dX12_setRight_121 ?_
            refine V_aloadn (pc := 122) dX12_setRight_122 rfl ?_
            refine V_getr (pc := 123) dX12_setRight_123 fX12_34 zk_256 zr_256_11 ?_
            refine V_bipush (pc := 126) dX12_setRight_126 (by decide +kernel) ?_
            refine V_iloadn (pc := 128) dX12_setRight_128 rfl ?_
            refine V_imul (pc := 129) dX12_setRight_129 ?_
            refine V_iload (pc := 130) dX12_setRight_130 rfl ?_
            refine V_iadd (pc := 132) dX12_setRight_132 ?_
            refine V_iald (pc := 133) dX12_setRight_133 zk_268 (by omega) (by omega) (by decide) ?_
            rw [q8]
            refine V_iast (pc := 134) dX12_setRight_134 zk_272 (by omega) (by omega) (by decide) ?_
            rw [mst_s (by omega) (by omega)]
            refine V_iinc_5 (pc := 135) dX12_setRight_135 (by decide) rfl ?_
            refine V_goto (pc := 138) (tgt := 48) dX12_setRight_138 (by decide) ?_
            first
              | (have z := ih (t + 1) (by omega) (by omega)
                 rw [bi_pos (c := oth m p (t + 1).toNat) (key.mpr (Or.inl (by assumption)))] at z
                 exact z)
              | (have z := ih (t + 1) (by omega) (by omega)
                 rw [bi_pos (c := oth m p (t + 1).toNat) (key.mpr (Or.inr ⟨by omega, by assumption⟩))] at z
                 exact z)
              | (have z := ih (t + 1) (by omega) (by omega)
                 rw [bi_neg (c := oth m p (t + 1).toNat) (fun h => by rcases key.mp h with h | h; exact absurd h (by assumption); exact absurd h (by omega))] at z
                 exact z)

set_option maxRecDepth 20000 in
theorem l_mset {s N : Int} (hs : inR s) {R : Int × Mem} {X : ZX} (hX : isM X (fun w m => w = vi R.1 ∧ m = R.2)) : ∀ (n : Nat) (p c : Int) (y4 y5 : AV) (m : Mem), (p + n = N) → (0 ≤ p) → (m 256 0 = N) → (MB m) → (mrt s n p c m = R) → V X mX12_setRight 4 [vr 256, vi s, vi c, vi p, y4, y5] [] m := by
  intro n
  induction n with
  | zero =>
    intro p c y4 y5 m h1 h2 hN hB hR0
    obtain ⟨b0, b1, b2, b3, b4, b5, b6, b7⟩ := id hB
    have c2 := b2 p.toNat
    have c3 := b3 p.toNat
    refine V_iloadn (pc := 4) dX12_setRight_4 rfl ?_
    refine V_aloadn (pc := 5) dX12_setRight_5 rfl ?_
    refine V_geti (r := 0) (pc := 6) dX12_setRight_6 fX12_118 zk_256 ?_
    refine V_icmp_ge (pc := 9) (tgt := 174) dX12_setRight_9 (by decide) (by omega) (by omega) (fun h9 => ?_) (fun h9 => ?_)
    · refine V_iloadn (pc := 174) dX12_setRight_174 rfl ?_
      refine V_iret hX dX12_setRight_175 rfl ?_
      subst hR0
      exact ⟨rfl, rfl⟩
    · exfalso; omega
  | succ n ih =>
    intro p c y4 y5 m h1 h2 hN hB hR0
    obtain ⟨b0, b1, b2, b3, b4, b5, b6, b7⟩ := id hB
    have c2 := b2 p.toNat
    have c3 := b3 p.toNat
    have e0' : mRp m p 256 0 = N := by unfold mRp; rw [mu_c (by decide), mu_c (by decide), mst_out (by decide)]; exact hN
    refine V_iloadn (pc := 4) dX12_setRight_4 rfl ?_
    refine V_aloadn (pc := 5) dX12_setRight_5 rfl ?_
    refine V_geti (r := 0) (pc := 6) dX12_setRight_6 fX12_118 zk_256 ?_
    refine V_icmp_ge (pc := 9) (tgt := 174) dX12_setRight_9 (by decide) (by omega) (by omega) (fun h9 => ?_) (fun h9 => ?_)
    · exfalso; omega
    · refine V_iloadn (pc := 12) dX12_setRight_12 rfl ?_
      refine V_iloadn (pc := 13) dX12_setRight_13 rfl ?_
      refine V_cs2 (pc := 14) dX12_setRight_14 kX12_260 (by decide) (Nat.le_of_ble_eq_true rfl) (r_has) rfl ?_
      refine V_ifeq_b (pc := 17) (tgt := 168) dX12_setRight_17 (by decide) (fun h17 => ?_) (fun h17 => ?_)
      · refine V_iinc_3 (pc := 168) dX12_setRight_168 (by decide) rfl ?_
        refine V_goto (pc := 171) (tgt := 4) dX12_setRight_171 (by decide) ?_
        exact ih _ _ _ _ _ (by omega) (by omega) hN hB (by rw [← hR0, mrt_s, if_neg (by assumption)])
      · refine V_aloadn (pc := 20) dX12_setRight_20 rfl ?_
        refine V_getr (pc := 21) dX12_setRight_21 fX12_40 zk_256 zr_256_13 ?_
        refine V_iloadn (pc := 24) dX12_setRight_24 rfl ?_
        refine V_iald (pc := 25) dX12_setRight_25 zk_270 (by omega) (by omega) (by decide) ?_
        refine V_if_ne (pc := 26) (tgt := 38) dX12_setRight_26 (by decide) (by omega) (fun h26 => ?_) (fun h26 => ?_)
        · refine V_iconst (pc := 38) dX12_setRight_38 ?_
          refine V_goto (pc := 39) (tgt := 43) dX12_setRight_39 (by decide) ?_
          refine V_istore_4 (pc := 43) dX12_setRight_43 (by decide) rfl ?_
          refine V_iconst (pc := 45) dX12_setRight_45 ?_
          refine V_istore_5 (pc := 46) dX12_setRight_46 (by decide) rfl ?_
          first
            | (have z := l_mstT hB (s := s) (c := c) (p := p) (by omega) (X := X) (fun t => ?_) (m 256 0).toNat 0 (by omega) (by omega)
               · rw [mst_0] at z
                 first
                   | (rw [bi_pos (c := oth m p (0 : Int).toNat) (fun h => by omega)] at z
                      exact z)
                   | (rw [bi_neg (c := oth m p (0 : Int).toNat) (fun h => h ⟨by omega, by omega, fun u hu => absurd hu (by simp)⟩)] at z
                      exact z)
               · refine V_aloadn (pc := 141) dX12_setRight_141 rfl ?_
                 refine V_getr (pc := 142) dX12_setRight_142 fX12_40 zk_256 zr_256_13 ?_
                 refine V_iloadn (pc := 145) dX12_setRight_145 rfl ?_
                 refine V_iconst (pc := 146) dX12_setRight_146 ?_
                 refine V_iast (pc := 147) dX12_setRight_147 zk_270 (by omega) (by omega) (by decide) ?_
                 refine V_aloadn (pc := 148) dX12_setRight_148 rfl ?_
                 refine V_getr (pc := 149) dX12_setRight_149 fX12_43 zk_256 zr_256_14 ?_
                 refine V_iloadn (pc := 152) dX12_setRight_152 rfl ?_
                 refine V_iconst (pc := 153) dX12_setRight_153 ?_
                 refine V_iast (pc := 154) dX12_setRight_154 zk_271 (by omega) (by omega) (by decide) ?_
                 refine V_iloadn (pc := 155) dX12_setRight_155 rfl ?_
                 refine V_iload (pc := 156) dX12_setRight_156 rfl ?_
                 refine V_ifeq_b (pc := 158) (tgt := 165) dX12_setRight_158 (by decide) (fun h158 => ?_) (fun h158 => ?_)
                 · refine V_iconst (pc := 165) dX12_setRight_165 ?_
                   refine V_iadd (pc := 166) dX12_setRight_166 ?_
                   refine V_istore_2 (pc := 167) dX12_setRight_167 (by decide) rfl ?_
                   refine V_iinc_3 (pc := 168) dX12_setRight_168 (by decide) rfl ?_
                   refine V_goto (pc := 171) (tgt := 4) dX12_setRight_171 (by decide) ?_
                   exact ih _ _ _ _ _ (by omega) (by omega) e0' (MB_mRp hB) (by rw [← hR0, mrt_s, if_pos (by assumption), bi_neg h158]; rfl)
                 · refine V_iconst (pc := 161) dX12_setRight_161 ?_
                   refine V_goto (pc := 162) (tgt := 166) dX12_setRight_162 (by decide) ?_
                   refine V_iadd (pc := 166) dX12_setRight_166 ?_
                   refine V_istore_2 (pc := 167) dX12_setRight_167 (by decide) rfl ?_
                   refine V_iinc_3 (pc := 168) dX12_setRight_168 (by decide) rfl ?_
                   refine V_goto (pc := 171) (tgt := 4) dX12_setRight_171 (by decide) ?_
                   exact ih _ _ _ _ _ (by omega) (by omega) e0' (MB_mRp hB) (by rw [← hR0, mrt_s, if_pos (by assumption), bi_pos h158]; rfl))
        · refine V_aloadn (pc := 29) dX12_setRight_29 rfl ?_
          refine V_getr (pc := 30) dX12_setRight_30 fX12_43 zk_256 zr_256_14 ?_
          refine V_iloadn (pc := 33) dX12_setRight_33 rfl ?_
          refine V_iald (pc := 34) dX12_setRight_34 zk_271 (by omega) (by omega) (by decide) ?_
          refine V_if_eq (pc := 35) (tgt := 42) dX12_setRight_35 (by decide) (by omega) (fun h35 => ?_) (fun h35 => ?_)
          · refine V_iconst (pc := 42) dX12_setRight_42 ?_
            refine V_istore_4 (pc := 43) dX12_setRight_43 (by decide) rfl ?_
            refine V_iconst (pc := 45) dX12_setRight_45 ?_
            refine V_istore_5 (pc := 46) dX12_setRight_46 (by decide) rfl ?_
            first
              | (have z := l_mstT hB (s := s) (c := c) (p := p) (by omega) (X := X) (fun t => ?_) (m 256 0).toNat 0 (by omega) (by omega)
                 · rw [mst_0] at z
                   first
                     | (rw [bi_pos (c := oth m p (0 : Int).toNat) (fun h => by omega)] at z
                        exact z)
                     | (rw [bi_neg (c := oth m p (0 : Int).toNat) (fun h => h ⟨by omega, by omega, fun u hu => absurd hu (by simp)⟩)] at z
                        exact z)
                 · refine V_aloadn (pc := 141) dX12_setRight_141 rfl ?_
                   refine V_getr (pc := 142) dX12_setRight_142 fX12_40 zk_256 zr_256_13 ?_
                   refine V_iloadn (pc := 145) dX12_setRight_145 rfl ?_
                   refine V_iconst (pc := 146) dX12_setRight_146 ?_
                   refine V_iast (pc := 147) dX12_setRight_147 zk_270 (by omega) (by omega) (by decide) ?_
                   refine V_aloadn (pc := 148) dX12_setRight_148 rfl ?_
                   refine V_getr (pc := 149) dX12_setRight_149 fX12_43 zk_256 zr_256_14 ?_
                   refine V_iloadn (pc := 152) dX12_setRight_152 rfl ?_
                   refine V_iconst (pc := 153) dX12_setRight_153 ?_
                   refine V_iast (pc := 154) dX12_setRight_154 zk_271 (by omega) (by omega) (by decide) ?_
                   refine V_iloadn (pc := 155) dX12_setRight_155 rfl ?_
                   refine V_iload (pc := 156) dX12_setRight_156 rfl ?_
                   refine V_ifeq_b (pc := 158) (tgt := 165) dX12_setRight_158 (by decide) (fun h158 => ?_) (fun h158 => ?_)
                   · refine V_iconst (pc := 165) dX12_setRight_165 ?_
                     refine V_iadd (pc := 166) dX12_setRight_166 ?_
                     refine V_istore_2 (pc := 167) dX12_setRight_167 (by decide) rfl ?_
                     refine V_iinc_3 (pc := 168) dX12_setRight_168 (by decide) rfl ?_
                     refine V_goto (pc := 171) (tgt := 4) dX12_setRight_171 (by decide) ?_
                     exact ih _ _ _ _ _ (by omega) (by omega) e0' (MB_mRp hB) (by rw [← hR0, mrt_s, if_pos (by assumption), bi_neg h158]; rfl)
                   · refine V_iconst (pc := 161) dX12_setRight_161 ?_
                     refine V_goto (pc := 162) (tgt := 166) dX12_setRight_162 (by decide) ?_
                     refine V_iadd (pc := 166) dX12_setRight_166 ?_
                     refine V_istore_2 (pc := 167) dX12_setRight_167 (by decide) rfl ?_
                     refine V_iinc_3 (pc := 168) dX12_setRight_168 (by decide) rfl ?_
                     refine V_goto (pc := 171) (tgt := 4) dX12_setRight_171 (by decide) ?_
                     exact ih _ _ _ _ _ (by omega) (by omega) e0' (MB_mRp hB) (by rw [← hR0, mrt_s, if_pos (by assumption), bi_pos h158]; rfl))
          · refine V_iconst (pc := 38) dX12_setRight_38 ?_
            refine V_goto (pc := 39) (tgt := 43) dX12_setRight_39 (by decide) ?_
            refine V_istore_4 (pc := 43) dX12_setRight_43 (by decide) rfl ?_
            refine V_iconst (pc := 45) dX12_setRight_45 ?_
            refine V_istore_5 (pc := 46) dX12_setRight_46 (by decide) rfl ?_
            first
              | (have z := l_mstT hB (s := s) (c := c) (p := p) (by omega) (X := X) (fun t => ?_) (m 256 0).toNat 0 (by omega) (by omega)
                 · rw [mst_0] at z
                   first
                     | (rw [bi_pos (c := oth m p (0 : Int).toNat) (fun h => by omega)] at z
                        exact z)
                     | (rw [bi_neg (c := oth m p (0 : Int).toNat) (fun h => h ⟨by omega, by omega, fun u hu => absurd hu (by simp)⟩)] at z
                        exact z)
                 · refine V_aloadn (pc := 141) dX12_setRight_141 rfl ?_
                   refine V_getr (pc := 142) dX12_setRight_142 fX12_40 zk_256 zr_256_13 ?_
                   refine V_iloadn (pc := 145) dX12_setRight_145 rfl ?_
                   refine V_iconst (pc := 146) dX12_setRight_146 ?_
                   refine V_iast (pc := 147) dX12_setRight_147 zk_270 (by omega) (by omega) (by decide) ?_
                   refine V_aloadn (pc := 148) dX12_setRight_148 rfl ?_
                   refine V_getr (pc := 149) dX12_setRight_149 fX12_43 zk_256 zr_256_14 ?_
                   refine V_iloadn (pc := 152) dX12_setRight_152 rfl ?_
                   refine V_iconst (pc := 153) dX12_setRight_153 ?_
                   refine V_iast (pc := 154) dX12_setRight_154 zk_271 (by omega) (by omega) (by decide) ?_
                   refine V_iloadn (pc := 155) dX12_setRight_155 rfl ?_
                   refine V_iload (pc := 156) dX12_setRight_156 rfl ?_
                   refine V_ifeq_b (pc := 158) (tgt := 165) dX12_setRight_158 (by decide) (fun h158 => ?_) (fun h158 => ?_)
                   · refine V_iconst (pc := 165) dX12_setRight_165 ?_
                     refine V_iadd (pc := 166) dX12_setRight_166 ?_
                     refine V_istore_2 (pc := 167) dX12_setRight_167 (by decide) rfl ?_
                     refine V_iinc_3 (pc := 168) dX12_setRight_168 (by decide) rfl ?_
                     refine V_goto (pc := 171) (tgt := 4) dX12_setRight_171 (by decide) ?_
                     exact ih _ _ _ _ _ (by omega) (by omega) e0' (MB_mRp hB) (by rw [← hR0, mrt_s, if_pos (by assumption), bi_neg h158]; rfl)
                   · refine V_iconst (pc := 161) dX12_setRight_161 ?_
                     refine V_goto (pc := 162) (tgt := 166) dX12_setRight_162 (by decide) ?_
                     refine V_iadd (pc := 166) dX12_setRight_166 ?_
                     refine V_istore_2 (pc := 167) dX12_setRight_167 (by decide) rfl ?_
                     refine V_iinc_3 (pc := 168) dX12_setRight_168 (by decide) rfl ?_
                     refine V_goto (pc := 171) (tgt := 4) dX12_setRight_171 (by decide) ?_
                     exact ih _ _ _ _ _ (by omega) (by omega) e0' (MB_mRp hB) (by rw [← hR0, mrt_s, if_pos (by assumption), bi_pos h158]; rfl))

set_option maxRecDepth 20000 in
theorem r_setRight {μ : Mem} (hB : MB μ) {s : Int} (hs : inR s) : SP mX12_setRight [vr 256, vi s] μ (fun w m => w = vi (mrt s (μ 256 0).toNat 0 0 μ).1 ∧ m = (mrt s (μ 256 0).toNat 0 0 μ).2) := by
  refine SP_intro (ls := [vr 256, vi s, un, un, un, un]) (by decide +kernel) rfl rfl (Nat.le_of_ble_eq_true rfl) rfl (fun X hX => ?_)
  obtain ⟨b0, b1, b2, b3, b4, b5, b6, b7⟩ := id hB
  refine V_iconst (pc := 0) dX12_setRight_0 ?_
  refine V_istore_2 (pc := 1) dX12_setRight_1 (by decide) rfl ?_
  refine V_iconst (pc := 2) dX12_setRight_2 ?_
  refine V_istore_3 (pc := 3) dX12_setRight_3 (by decide) rfl ?_
  exact l_mset (N := μ 256 0) hs hX (μ 256 0).toNat 0 0 _ _ μ (by omega) (by omega) rfl hB rfl

def mRight (μ : Mem) (s : Int) : Int × Mem := if 0 ≤ s ∧ s < ishl 1 (μ 256 0) then mrt s (μ 256 0).toNat 0 0 μ else (-1000000001, μ)

set_option maxRecDepth 20000 in
theorem r_right {μ : Mem} (hB : MB μ) {s : Int} (hs : inR s) : SP mX12_right [vr 256, vi s] μ (fun w m => w = vi (mRight μ s).1 ∧ m = (mRight μ s).2) := by
  refine SP_intro (ls := [vr 256, vi s]) (by decide +kernel) rfl rfl (Nat.le_of_ble_eq_true rfl) rfl (fun X hX => ?_)
  obtain ⟨b0, b1, b2, b3, b4, b5, b6, b7⟩ := id hB
  refine V_aloadn (pc := 0) dX12_right_0 rfl ?_
  refine V_iloadn (pc := 1) dX12_right_1 rfl ?_
  refine V_cv1 (pc := 2) dX12_right_2 kX12_271 zk_256 (by decide) (Nat.le_of_ble_eq_true rfl) (r_isSet b0 hs) rfl ?_
  refine V_ifeq_b (pc := 5) (tgt := 16) dX12_right_5 (by decide) (fun h5 => ?_) (fun h5 => ?_)
  · refine V_ldc (pc := 16) (n := -1000000001) dX12_right_16 nX12_246 (by decide) ?_
    refine V_iret hX dX12_right_18 rfl ?_
    unfold mRight
    first | rw [if_pos (by omega)] | rw [if_neg (by omega)]
    exact ⟨rfl, rfl⟩
  · refine V_aloadn (pc := 8) dX12_right_8 rfl ?_
    refine V_iloadn (pc := 9) dX12_right_9 rfl ?_
    refine V_cv1 (pc := 10) dX12_right_10 kX12_227 zk_256 (by decide) (Nat.le_of_ble_eq_true rfl) (r_setRight hB hs) rfl ?_
    refine V_goto (pc := 13) (tgt := 18) dX12_right_13 (by decide) ?_
    refine V_iret hX dX12_right_18 rfl ?_
    unfold mRight
    first | rw [if_pos (by omega)] | rw [if_neg (by omega)]
    exact ⟨rfl, rfl⟩


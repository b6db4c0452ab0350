/-! what a land is, from its roads -/
/-- the road at side i of p leads to t -/
abbrev lds (f g l D Q : Row) (p t i : Nat) : Prop := l (Q (p * 5 + i)).toNat + D (9 * (if f (Q (p * 5 + i)).toNat = p then g (Q (p * 5 + i)).toNat else f (Q (p * 5 + i)).toNat) + t).toNat = D (9 * p + t)
def ARM (f g l D Q : Row) (s p t : Nat) (v : Int) : Prop := (v = -1 ∧ (p = t ∨ 1000000 ≤ dd D p t ∨ ∀ i, i < s → ¬ lds f g l D Q p t i)) ∨ (∃ k : Nat, v = (k : Int) ∧ k < s ∧ ¬ p = t ∧ dd D p t < 1000000 ∧ lds f g l D Q p t k ∧ ∀ i, i < k → ¬ lds f g l D Q p t i)
theorem ARM_u {f g l D D' Q Q' : Row} {s p t : Nat} {v w : Int} (hd : ∀ i, i < s → (lds f g l D Q p t i ↔ lds f g l D' Q' p t i)) (he : dd D p t = dd D' p t) (h1 : ARM f g l D Q s p t v) (h2 : ARM f g l D' Q' s p t w) : v = w := by
  rcases h1 with ⟨a1, a2⟩ | ⟨k, a1, a2, a3, a4, a5, a6⟩
  · rcases h2 with ⟨b1, b2⟩ | ⟨j, b1, b2, b3, b4, b5, b6⟩
    · rw [a1, b1]
    · exfalso
      rcases a2 with z | z | z
      · exact b3 z
      · omega
      · exact z j b2 ((hd j b2).mpr b5)
  · rcases h2 with ⟨b1, b2⟩ | ⟨j, b1, b2, b3, b4, b5, b6⟩
    · exfalso
      rcases b2 with z | z | z
      · exact a3 z
      · omega
      · exact z k a2 ((hd k a2).mp a5)
    · rw [a1, b1]
      have : k = j := by
        by_cases c : k = j
        · exact c
        · exfalso
          rcases (show k < j ∨ j < k by omega) with z | z
          · exact b6 k z ((hd k a2).mp a5)
          · exact a6 j z ((hd j b2).mpr b5)
      rw [this]
theorem mAr_sp {f g l D Q : Row} {p t : Nat} : ∀ (n : Nat) (v : Int), (mAr f g l D Q p t n v = v ∧ ∀ i : Nat, i < n → ¬ ldsM f g l D Q p t i) ∨ ∃ k : Nat, mAr f g l D Q p t n v = (k : Int) ∧ k < n ∧ ldsM f g l D Q p t k ∧ ∀ i : Nat, i < k → ¬ ldsM f g l D Q p t i := by
  intro n
  induction n with
  | zero => intro v; exact Or.inl ⟨rfl, fun i hi => by omega⟩
  | succ n ih =>
    intro v
    rw [mAr_s]
    by_cases c : ldsM f g l D Q p t n
    · rw [if_pos c]
      rcases ih n with ⟨h1, h2⟩ | ⟨k, h1, h2, h3, h4⟩
      · exact Or.inr ⟨n, h1, by omega, c, fun i hi => h2 i hi⟩
      · exact Or.inr ⟨k, h1, by omega, h3, h4⟩
    · rw [if_neg c]
      rcases ih v with ⟨h1, h2⟩ | ⟨k, h1, h2, h3, h4⟩
      · refine Or.inl ⟨h1, fun i hi => ?_⟩
        by_cases e : i = n
        · rw [e]; exact c
        · exact h2 i (by omega)
      · exact Or.inr ⟨k, h1, by omega, h3, h4⟩
theorem ldsM_iff {f g l D Q : Row} {p t i : Nat} : ldsM f g l D Q p t i ↔ dd D p t < 1000000 ∧ lds f g l D Q p t i := by
  unfold ldsM lds
  rw [show (9 * (p : Int) + (t : Int)).toNat = 9 * p + t by omega, show (5 * (p : Int) + (i : Int)).toNat = p * 5 + i by omega]
theorem AR_ARM {f g l D Q S : Row} {p t : Nat} : ARM f g l D Q (S p).toNat p t (AR f g l D Q S p t) := by
  unfold AR
  by_cases c : t = p
  · rw [if_pos c]; exact Or.inl ⟨rfl, Or.inl c.symm⟩
  · rw [if_neg c]
    rcases mAr_sp (f := f) (g := g) (l := l) (D := D) (Q := Q) (p := p) (t := t) (S p).toNat (-1) with ⟨h1, h2⟩ | ⟨k, h1, h2, h3, h4⟩
    · refine Or.inl ⟨h1, Or.inr ?_⟩
      by_cases d : dd D p t < 1000000
      · exact Or.inr (fun i hi z => h2 i hi (ldsM_iff.mpr ⟨d, z⟩))
      · exact Or.inl (by omega)
    · rw [ldsM_iff] at h3
      exact Or.inr ⟨k, h1, h2, fun e => c e.symm, h3.1, h3.2, fun i hi z => h4 i hi (ldsM_iff.mpr ⟨h3.1, z⟩)⟩
theorem ltL_sp {μ : Mem} {o : Nat} {p t : Int} : ∀ (n s : Nat), (ltL μ o p t n s = -1 ∧ ∀ i : Nat, s ≤ i → i < s + n → ¬ gLn μ o (gRd μ o p i) + gFar μ o (gBy μ o p (gRd μ o p i)) t = gFar μ o p t) ∨ ∃ k : Nat, ltL μ o p t n s = (k : Int) ∧ s ≤ k ∧ k < s + n ∧ gLn μ o (gRd μ o p k) + gFar μ o (gBy μ o p (gRd μ o p k)) t = gFar μ o p t ∧ ∀ i : Nat, s ≤ i → i < k → ¬ gLn μ o (gRd μ o p i) + gFar μ o (gBy μ o p (gRd μ o p i)) t = gFar μ o p t := by
  intro n
  induction n with
  | zero => intro s; exact Or.inl ⟨rfl, fun i a b => by omega⟩
  | succ n ih =>
    intro s
    rw [ltL_s]
    by_cases c : gLn μ o (gRd μ o p s) + gFar μ o (gBy μ o p (gRd μ o p s)) t = gFar μ o p t
    · rw [if_pos c]; exact Or.inr ⟨s, rfl, Nat.le_refl s, by omega, c, fun i a b => by omega⟩
    · rw [if_neg c]
      have e : ((s : Int) + 1) = ((s + 1 : Nat) : Int) := by omega
      rw [e]
      rcases ih (s + 1) with ⟨h1, h2⟩ | ⟨k, h1, h2, h3, h4, h5⟩
      · refine Or.inl ⟨h1, fun i a b => ?_⟩
        by_cases d : i = s
        · rw [d]; exact c
        · exact h2 i (by omega) (by omega)
      · refine Or.inr ⟨k, h1, by omega, by omega, h4, fun i a b => ?_⟩
        by_cases d : i = s
        · rw [d]; exact c
        · exact h5 i (by omega) b
/-- what the cells o .. of a class's land say -/
def CL (μ : Mem) (o : Nat) (f g l : Row) (P N : Nat) : Prop := (μ o 0 = (P : Int) ∧ μ o 1 = (N : Int)) ∧ (P ≤ 9 ∧ N ≤ 14) ∧ Vr f g l N P ∧ (∀ r, r < N → μ (o + 4) r = f r ∧ μ (o + 5) r = g r ∧ μ (o + 6) r = l r) ∧ SdOK f g N (μ (o + 10)) (μ (o + 11)) ∧ ∀ p, cnt f g p N ≤ 5
theorem CL.side {μ : Mem} {o : Nat} {f g l : Row} {P N : Nat} (h : CL μ o f g l P N) {p i : Nat} (hp : p < P) (hi : (i : Int) < μ (o + 10) p) : ∃ r, r < N ∧ (f r = p ∨ g r = p) ∧ μ (o + 11) (p * 5 + i) = (r : Int) ∧ gRd μ o p i = (r : Int) ∧ gLn μ o r = l r ∧ gBy μ o p r = (if f r = p then g r else f r) ∧ cnt f g p r = i := by
  obtain ⟨h1, h2, hV, h3, h4, h5⟩ := h
  have hS := h4.1 p (by omega)
  obtain ⟨r, r1, r2, r3⟩ := cnt_ex (f := f) (g := g) (p := (p : Int)) N i (by omega) (by omega)
  have q := h4.2 r p r1 (by omega) r2
  rw [r3, Int.toNat_natCast] at q
  have eR : gRd μ o p i = (r : Int) := by
    unfold gRd
    rw [if_pos ⟨by omega, by omega, by rw [Int.toNat_natCast]; exact hi⟩, show ((p : Int) * 5 + (i : Int)).toNat = p * 5 + i by omega]
    exact q
  have a := h3 r r1
  have e1 : gOne μ o r = f r := by unfold gOne; rw [if_pos (by omega), Int.toNat_natCast]; exact a.1
  have e2 : gTwo μ o r = g r := by unfold gTwo; rw [if_pos (by omega), Int.toNat_natCast]; exact a.2.1
  exact ⟨r, r1, r2, q, eR, by unfold gLn; rw [if_pos (by omega), Int.toNat_natCast]; exact a.2.2, by unfold gBy; rw [e1, e2], r3⟩
theorem CL.oth {μ : Mem} {o : Nat} {f g l : Row} {P N : Nat} (h : CL μ o f g l P N) {p r : Nat} (hr : r < N) : 0 ≤ (if f r = p then g r else f r) ∧ (if f r = p then g r else f r) < P := by
  have := h.2.2.1 r hr
  split <;> omega
/-- the class's least true arm -/
theorem lta_ARM {μ : Mem} {o : Nat} {f g l : Row} {P N : Nat} (h : CL μ o f g l P N) {p t : Nat} (hp : p < P) (ht : t < P) : ARM f g l (μ (o + 12)) (μ (o + 11)) (μ (o + 10) p).toNat p t (lta μ o p t) := by
  have h0 := h.1.1
  have fr : ∀ a b : Nat, a < P → b < P → gFar μ o a b = dd (μ (o + 12)) a b := fun a b ha hb => by
    unfold gFar
    rw [if_pos ⟨by omega, by omega⟩]
    show μ (o + 12) _ = μ (o + 12) _
    congr 1; omega
  have hS := h.2.2.2.2.1.1 p (by have := h.2.1; omega)
  have hc := cnt_mono (f := f) (g := g) (p := (p : Int)) N 0 (Nat.zero_le _)
  have es : gSd μ o p = μ (o + 10) p := by unfold gSd; rw [if_pos (by omega), Int.toNat_natCast]
  have key : ∀ i : Nat, (i : Int) < μ (o + 10) p → (gLn μ o (gRd μ o p i) + gFar μ o (gBy μ o p (gRd μ o p i)) t = gFar μ o p t ↔ lds f g l (μ (o + 12)) (μ (o + 11)) p t i) := fun i hi => by
    obtain ⟨r, r1, r2, r3, r4, r5, r6, r7⟩ := h.side hp hi
    have ot := h.oth (p := p) r1
    unfold lds
    rw [r4, r5, r6, r3, Int.toNat_natCast, fr p t hp ht]
    have := fr (if f r = p then g r else f r).toNat t (by omega) ht
    rw [show (((if f r = (p : Int) then g r else f r).toNat : Nat) : Int) = if f r = (p : Int) then g r else f r by omega] at this
    rw [this]
    show l r + μ (o + 12) (9 * (if f r = (p : Int) then g r else f r).toNat + t) = _ ↔ _
    rw [show (9 * (if f r = (p : Int) then g r else f r) + (t : Int)).toNat = 9 * (if f r = (p : Int) then g r else f r).toNat + t by omega]
  unfold lta
  by_cases c : (p : Int) = t ∨ ¬ (0 ≤ (p : Int) ∧ (p : Int) < μ o 0) ∨ ¬ (0 ≤ (t : Int) ∧ (t : Int) < μ o 0) ∨ 1000000 ≤ gFar μ o p t
  · rw [if_pos c]
    refine Or.inl ⟨rfl, ?_⟩
    rw [fr p t hp ht] at c
    rcases c with z | z | z | z
    · exact Or.inl (by omega)
    · omega
    · omega
    · exact Or.inr (Or.inl z)
  · rw [if_neg c, es]
    rw [fr p t hp ht] at c
    rcases ltL_sp (μ := μ) (o := o) (p := p) (t := t) (μ (o + 10) p).toNat 0 with ⟨h1, h2⟩ | ⟨k, h1, h2, h3, h4, h5⟩
    · exact Or.inl ⟨h1, Or.inr (Or.inr (fun i hi z => h2 i (by omega) (by omega) ((key i (by omega)).mpr z)))⟩
    · exact Or.inr ⟨k, h1, by omega, by omega, by omega, (key k (by omega)).mp h4, fun i hi z => h5 i (by omega) hi ((key i (by omega)).mpr z)⟩
/-- a land's facts from its roads, distances and arms -/
theorem LF_of {ν : Mem} {f g l D : Row} {P N : Nat} (hL : LOK ν 32) (hC : CL ν 32 f g l P N) (hU : UQ f g N) (hF : FI (edg f g l N) P P D) (hD : ∀ x, x < 81 → ν (32 + 12) x = if 1000000 ≤ D x then -1 else D x) (hA : ∀ p t, p < P → t < P → ARM f g l D (ν (32 + 11)) (ν (32 + 10) p).toNat p t (ν (32 + 13) (p * 9 + t))) (hT : ∀ k : Nat, (k : Int) < ν 32 2 → (0 ≤ ν (32 + 7) k ∧ ν (32 + 7) k < P) ∧ (0 ≤ ν (32 + 8) k ∧ ν (32 + 8) k < P) ∧ (1 ≤ ν (32 + 9) k ∧ ν (32 + 9) k ≤ 99)) : LF ν := by
  have hP := hC.2.1.1
  have h0 : ν 32 0 = (P : Int) := hC.1.1
  have h1 : ν 32 1 = (N : Int) := hC.1.2
  have fr : ∀ a b : Nat, a < P → b < P → gFar ν 32 a b = if 1000000 ≤ dd D a b then -1 else dd D a b := fun a b ha hb => by
    unfold gFar
    rw [if_pos ⟨by omega, by omega⟩, show ((a : Int) * 9 + (b : Int)).toNat = 9 * a + b by omega]
    exact hD _ (by omega)
  have ar : ∀ a b : Nat, a < P → b < P → gArm ν 32 a b = ν (32 + 13) (a * 9 + b) := fun a b ha hb => by
    unfold gArm
    rw [if_pos ⟨by omega, by omega⟩, show ((a : Int) * 9 + (b : Int)).toNat = a * 9 + b by omega]
  have sd : ∀ a : Nat, a < P → gSd ν 32 a = ν (32 + 10) a := fun a ha => by unfold gSd; rw [if_pos (by omega), Int.toNat_natCast]
  have sp : ∀ a : Nat, 0 ≤ ν (32 + 10) a := fun a => (hL.2.2.2.1 a).1
  have rg : ∀ a b : Nat, a < P → b < P → 0 ≤ dd D a b ∧ dd D a b ≤ 1000000 := fun a b ha hb => dd_rg hF.1 (by omega) (by omega)
  have alt : ∀ p t, p < P → t < P → -1 ≤ ν (32 + 13) (p * 9 + t) ∧ ν (32 + 13) (p * 9 + t) < ν (32 + 10) p := fun p t hp ht => by
    have := sp p
    rcases hA p t hp ht with z | ⟨k, z1, z2, _⟩ <;> omega
  refine ⟨hL, ⟨fun r hr => ?_, fun p i hp hi => ?_, fun p t hp ht => ?_, fun k hk => by rw [h0]; exact hT k hk⟩, fun p t hp ht => ?_, fun p hp => ?_, fun p i j hp hi hij hj => ?_, fun p r hp hr he => ?_⟩
  · have a := hC.2.2.2.1 r (by omega)
    have v := hC.2.2.1 r (by omega)
    rw [a.1, a.2.1, a.2.2, h0]; exact v
  · obtain ⟨r, r1, r2, r3, r4, r5, r6, r7⟩ := hC.side (p := p) (i := i) (by omega) hi
    have a := hC.2.2.2.1 r r1
    rw [r3, Int.toNat_natCast, a.1, a.2.1]
    exact ⟨by omega, r2⟩
  · have a := alt p t (by omega) (by omega)
    have d := hD (9 * p + t) (by omega)
    have := rg p t (by omega) (by omega)
    rw [show p * 9 + t = 9 * p + t by omega] at a ⊢
    rw [d]
    refine ⟨a.1, a.2, ?_⟩
    show -1 ≤ (if 1000000 ≤ dd D p t then -1 else dd D p t) ∧ (if 1000000 ≤ dd D p t then -1 else dd D p t) < 1000000
    split <;> omega
  · obtain ⟨p, rfl⟩ : ∃ k : Nat, p = (k : Int) := ⟨p.toNat, by omega⟩
    obtain ⟨t, rfl⟩ : ∃ k : Nat, t = (k : Int) := ⟨t.toNat, by omega⟩
    have hp' : p < P := by omega
    have ht' : t < P := by omega
    rw [ar p t hp' ht', fr p t hp' ht']
    have r0 := rg p t hp' ht'
    rcases hA p t hp' ht' with ⟨z1, z2⟩ | ⟨k, z1, z2, z3, z4, z5, z6⟩
    · refine ⟨⟨fun _ => ?_, fun _ => z1⟩, fun q => absurd z1 q⟩
      by_cases e : p = t
      · exact Or.inl (by omega)
      · refine Or.inr ?_
        by_cases c : 1000000 ≤ dd D p t
        · rw [if_pos c]
        · exfalso
          obtain ⟨q, v, q1, ⟨r, r1, r2, r3⟩, q3⟩ := hF.2.2.2.1 p (by omega) t (by omega) e (by omega)
          have vr := hC.2.2.1 r r1
          have tri := hF.2.2.1 q (by omega) p (by omega) t (by omega)
          have me := hF.2.2.2.2.1 p q v (by omega) q1 ⟨r, r1, r2, r3⟩
          have atp : f r = p ∨ g r = p := by omega
          have sq := hC.2.2.2.2.1.2 r p r1 (by omega) atp
          have cl := cnt_lt (f := f) (g := g) (p := (p : Int)) r1 atp
          have hS := hC.2.2.2.2.1.1 p (by omega)
          have c0 := (cnt_mono (f := f) (g := g) (p := (p : Int)) r 0 (Nat.zero_le _)).1
          have cr := (cnt_mono (f := f) (g := g) (p := (p : Int)) r r (Nat.le_refl _)).1
          have hl : lds f g l D (ν (32 + 11)) p t (cnt f g p r).toNat := by
            unfold lds
            rw [sq, Int.toNat_natCast]
            have eo : (if f r = (p : Int) then g r else f r) = (q : Int) := by split <;> omega
            rw [eo, show (9 * (q : Int) + (t : Int)).toNat = 9 * q + t by omega]
            show l r + dd D q t = dd D p t
            omega
          rcases z2 with z | z | z
          · exact e z
          · exact c z
          · exact z _ (by omega) hl
    · have nz : ¬ ν (32 + 13) (p * 9 + t) = -1 := by omega
      rw [if_neg (by omega)]
      refine ⟨⟨fun q => absurd q nz, fun q => by omega⟩, fun _ => ?_⟩
      have sk := sp p
      obtain ⟨r, r1, r2, r3, r4, r5, r6, r7⟩ := hC.side (p := p) (i := k) hp' (by omega)
      have vr := hC.2.2.1 r r1
      have ot := hC.oth (p := p) r1
      unfold lds at z5
      rw [r3, Int.toNat_natCast] at z5
      rw [z1, r4, r5, r6]
      have f2 := fr (if f r = p then g r else f r).toNat t (by omega) ht'
      have rg2 := rg (if f r = p then g r else f r).toNat t (by omega) ht'
      rw [show (((if f r = (p : Int) then g r else f r).toNat : Nat) : Int) = if f r = (p : Int) then g r else f r by omega] at f2
      rw [show (9 * (if f r = (p : Int) then g r else f r) + (t : Int)).toNat = 9 * (if f r = (p : Int) then g r else f r).toNat + t by omega] at z5
      have z5' : l r + dd D (if f r = (p : Int) then g r else f r).toNat t = dd D p t := z5
      rw [f2, if_neg (by omega)]
      exact ⟨z5', by omega⟩
  · obtain ⟨p, rfl⟩ : ∃ k : Nat, p = (k : Int) := ⟨p.toNat, by omega⟩
    have := hF.2.1 p (by omega)
    rw [fr p p (by omega) (by omega), this]; rfl
  · obtain ⟨p, rfl⟩ : ∃ k : Nat, p = (k : Int) := ⟨p.toNat, by omega⟩
    obtain ⟨i, rfl⟩ : ∃ k : Nat, i = (k : Int) := ⟨i.toNat, by omega⟩
    obtain ⟨j, rfl⟩ : ∃ k : Nat, j = (k : Int) := ⟨j.toNat, by omega⟩
    rw [sd p (by omega)] at hj
    obtain ⟨r, r1, r2, r3, r4, r5, r6, r7⟩ := hC.side (p := p) (i := i) (by omega) (by omega)
    obtain ⟨s, s1, s2, s3, s4, s5, s6, s7⟩ := hC.side (p := p) (i := j) (by omega) hj
    rw [r4, s4, r6, s6]
    have vr := hC.2.2.1 r r1
    have vs := hC.2.2.1 s s1
    intro e
    have hne : ¬ r = s := fun q => by rw [q] at r7; omega
    rcases (show r < s ∨ s < r by omega) with z | z
    · apply hU r s z s1
      split at e <;> split at e <;> omega
    · apply hU s r z r1
      split at e <;> split at e <;> omega
  · obtain ⟨p, rfl⟩ : ∃ k : Nat, p = (k : Int) := ⟨p.toNat, by omega⟩
    obtain ⟨r, rfl⟩ : ∃ k : Nat, r = (k : Int) := ⟨r.toNat, by omega⟩
    have a := hC.2.2.2.1 r (by omega)
    have he' : f r = p ∨ g r = p := by
      have : ν (32 + 4) r = p ∨ ν (32 + 5) r = p := he
      rw [a.1, a.2.1] at this; exact this
    have sq := hC.2.2.2.2.1.2 r p (by omega) (by omega) he'
    have cl := cnt_lt (f := f) (g := g) (p := (p : Int)) (show r < N by omega) he'
    have hS := hC.2.2.2.2.1.1 p (by omega)
    have cr := (cnt_mono (f := f) (g := g) (p := (p : Int)) r r (Nat.le_refl _)).1
    refine ⟨cnt f g p r, ⟨cr, by rw [sd p (by omega), hS]; exact cl⟩, ?_⟩
    unfold gRd
    rw [if_pos ⟨by omega, cr, by rw [Int.toNat_natCast, hS]; exact cl⟩, show ((p : Int) * 5 + cnt f g p r).toNat = p * 5 + (cnt f g p r).toNat by omega]
    exact sq

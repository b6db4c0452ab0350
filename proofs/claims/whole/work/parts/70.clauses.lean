/-! reading: clauses -/
/-- the class's draft is what the reference has read -/
def DRJ (c m : Mem) : Prop := (c 48 0 = m 256 25 ∧ c 48 1 = m 256 26 ∧ c 48 2 = m 256 30) ∧ (∀ r : Nat, (r : Int) < m 256 26 → c (48 + 4) r = m 284 r ∧ c (48 + 5) r = m 285 r ∧ c (48 + 6) r = m 286 r) ∧ (∀ k : Nat, (k : Int) < m 256 30 → c (48 + 7) k = m 288 k ∧ c (48 + 8) k = m 289 k ∧ c (48 + 9) k = m 290 k) ∧ SdOK (m 284) (m 285) (m 256 26).toNat (c (48 + 10)) (c (48 + 11)) ∧ UQ (m 284) (m 285) (m 256 26).toNat
theorem DRJ_c {c d m : Mem} (h : ∀ k, 48 ≤ k → k ≤ 59 → d k = c k) (H : DRJ c m) : DRJ d m := by
  unfold DRJ
  rw [h 48 (by decide) (by decide), h (48 + 4) (by decide) (by decide), h (48 + 5) (by decide) (by decide), h (48 + 6) (by decide) (by decide), h (48 + 7) (by decide) (by decide), h (48 + 8) (by decide) (by decide), h (48 + 9) (by decide) (by decide), h (48 + 10) (by decide) (by decide), h (48 + 11) (by decide) (by decide)]
  exact H
theorem DRJ_m {c m n : Mem} (h1 : n 256 25 = m 256 25) (h2 : n 256 26 = m 256 26) (h3 : n 256 30 = m 256 30) (h : ∀ k, 284 ≤ k → k ≤ 290 → n k = m k) (H : DRJ c m) : DRJ c n := by
  unfold DRJ
  rw [h1, h2, h3, h 284 (by decide) (by decide), h 285 (by decide) (by decide), h 286 (by decide) (by decide), h 288 (by decide) (by decide), h 289 (by decide) (by decide), h 290 (by decide) (by decide)]
  exact H
def J0 (c m : Mem) : Prop := sg c = sgm m ∧ c 64 2 = hB m ∧ c 64 3 = 0 ∧ c 64 4 = -1 ∧ m 256 19 = -1 ∧ DRJ c m
/-- what comes of a clause -/
def CR (X : Mem) (Y : Int × Mem) : Prop := (Y.1 = 0 ∧ J0 (skM X) Y.2) ∨ (¬ Y.1 = 0 ∧ X 64 3 = Y.1 ∧ X 64 4 = Y.2 256 19)
theorem sg_cg {c d : Mem} (h1 : d 16 = c 16) (h2 : d 17 = c 17) : sg d = sg c := by funext a; unfold sg; rw [h1, h2]
theorem nB_cg {c d : Mem} (h1 : d 16 = c 16) (h2 : d 17 = c 17) (h3 : d 64 2 = c 64 2) : nB d = nB c := by unfold nB; rw [sg_cg h1 h2, h3]
theorem tail_ok {x p : Mem} (h : PS x p) (h0 : sgm p (hB p) = 59) : sg (eM x) = sgm (mu (heM p) 256 20 (hB p + 1)) ∧ nB (eM x) = hB (mu (heM p) 256 20 (hB p + 1)) := by
  have e1 : sgm (mu (heM p) 256 20 (hB p + 1)) = sgm p := sgm_cg (by rw [mu_j (by decide), heM_j (by decide)]) (by rw [mu_ne (by decide), heM_c (by decide)])
  refine ⟨by rw [sg_eM, h.1, e1], ?_⟩
  unfold nB
  show _ = skG (bC (sgm (mu (heM p) 256 20 (hB p + 1)))) 400 (mu (heM p) 256 20 (hB p + 1) 256 20)
  rw [sg_eM, h.1, e1, eM_ok h h0, mu_h, mu_h, h.2.1]
/-- a clause ends well: X is the class's memory with the draft's change -/
theorem J0_mk {x p X : Mem} (h : PS x p) (h0 : sgm p (hB p) = 59) (hx : ∀ k, (k < 48 ∨ 59 < k) → X k = eM x k) (hk : x 64 3 = 0) (hf : x 64 4 = -1) (hm : p 256 19 = -1) (hD : DRJ X p) : J0 (skM X) (mu (heM p) 256 20 (hB p + 1)) := by
  obtain ⟨t1, t2⟩ := tail_ok h h0
  have e16 : X 16 = eM x 16 := hx 16 (by decide)
  have e17 : X 17 = eM x 17 := hx 17 (by decide)
  have e64 : X 64 = eM x 64 := hx 64 (by decide)
  have s1 : sg (skM X) = sg X := sg_c (by decide) (by decide)
  refine ⟨by rw [s1, sg_cg e16 e17]; exact t1, by rw [skM_2, nB_cg e16 e17 (by rw [e64])]; exact t2, ?_, ?_, ?_, ?_⟩
  · rw [skM_3, e64, eM_ok h h0, mu_j (by decide)]; exact hk
  · rw [skM_4, e64, eM_ok h h0, mu_j (by decide)]; exact hf
  · rw [mu_j (by decide), heM_j (by decide)]; exact hm
  · exact DRJ_c (fun k a b => skM_c (by omega)) (DRJ_m (by rw [mu_j (by decide), heM_j (by decide)]) (by rw [mu_j (by decide), heM_j (by decide)]) (by rw [mu_j (by decide), heM_j (by decide)]) (fun k a b => by rw [mu_ne (by omega), heM_c (by omega)]) hD)
theorem tCe_59 {p : Int × Mem} (h1 : p.1 = 0) (h2 : sgm p.2 (hB p.2) = 59) : tCe p = (0, mu (heM p.2) 256 20 (hB p.2 + 1)) := by unfold tCe; rw [if_pos h1, if_pos h2]
theorem tCe_no {p : Int × Mem} (h1 : p.1 = 0) (h2 : ¬ sgm p.2 (hB p.2) = 59) : tCe p = (1, mu (heM p.2) 256 19 (hB p.2)) := by unfold tCe; rw [if_pos h1, if_neg h2]
theorem tCe_f {p : Int × Mem} (h1 : ¬ p.1 = 0) : tCe p = (p.1, mu p.2 256 20 (p.2 256 20 + 1)) := by unfold tCe; rw [if_neg h1]
theorem tkN_19 {m : Mem} {l g : Int} (h : (tkN m l g).1 = 0) : (tkN m l g).2 256 19 = m 256 19 := by
  rw [(tkN_ok h).2.2.2]; unfold nmM; rw [mu_j (by decide), mu_j (by decide), mu_j (by decide), heM_j (by decide)]
/-- places -/
theorem cl_places {w t : Mem} (h : PS w t) (hk : w 64 3 = 0) (hf : w 64 4 = -1) (hm : t 256 19 = -1) (hD : DRJ w t) (hP : ¬ 0 < w 48 0) {p : Int × Mem} (hp : p = ((tkN t 1 9).1, mu (tkN t 1 9).2 256 25 ((tkN t 1 9).2 256 23))) {f : Int} : CR (rPl w f) (tCe p) := by
  unfold rPl
  rw [if_neg hP]
  by_cases c : (tkN t 1 9).1 = 0
  · obtain ⟨a1, a2, a3⟩ := nM_ok h c
    have hk1 : nM w 1 9 64 3 = 0 := by rw [a1, mu_j (by decide)]; exact hk
    have hf1 : nM w 1 9 64 4 = -1 := by rw [a1, mu_j (by decide)]; exact hf
    have hp1 : p.1 = 0 := by rw [hp]; exact c
    have hp2 : p.2 = mu (tkN t 1 9).2 256 25 ((tkN t 1 9).2 256 23) := by rw [hp]
    have hps : PS (nM w 1 9) p.2 := by rw [hp2]; exact PS_m a3 (mu_j (by decide)) (mu_ne (by decide)) (mu_j (by decide)) (MX_mu a3.2.2.2 (by decide) (by decide))
    by_cases d : sgm p.2 (hB p.2) = 59
    · have hz : eM (nM w 1 9) 64 3 = 0 := by rw [eM_ok hps d, mu_j (by decide)]; exact hk1
      rw [if_pos hz, tCe_59 hp1 d]
      refine Or.inl ⟨rfl, J0_mk hps d (fun k hk => mu_ne (by omega)) hk1 hf1 ?_ ?_⟩
      · rw [hp2, mu_j (by decide), tkN_19 c]; exact hm
      · obtain ⟨⟨d1, d2, d3⟩, d4⟩ := hD
        have ec : ∀ k, k ≠ 64 → eM (nM w 1 9) k = w k := fun k q => by rw [eM_c q, nM_c q]
        have e25 : p.2 256 25 = hV t := by rw [hp2, mu_h, (tkN_ok c).2.2.2, nmM_23]
        have ej : ∀ j, (j ≠ 19 ∧ j ≠ 20 ∧ j ≠ 23 ∧ j ≠ 24) → j ≠ 25 → p.2 256 j = t 256 j := fun j q q2 => by rw [hp2, mu_j q2, tkN_j q]
        have em : ∀ k, k ≠ 256 → p.2 k = t k := fun k q => by rw [hp2, mu_ne q, tkN_c q]
        refine ⟨⟨by rw [mu_h, e25, a2], by rw [mu_j (by decide), ec 48 (by decide), ej 26 (by decide) (by decide)]; exact d2, by rw [mu_j (by decide), ec 48 (by decide), ej 30 (by decide) (by decide)]; exact d3⟩, ?_⟩
        have q4 : mu (eM (nM w 1 9)) 48 0 (nV w) (48 + 4) = w (48 + 4) := by rw [mu_ne (by decide), ec _ (by decide)]
        have q5 : mu (eM (nM w 1 9)) 48 0 (nV w) (48 + 5) = w (48 + 5) := by rw [mu_ne (by decide), ec _ (by decide)]
        have q6 : mu (eM (nM w 1 9)) 48 0 (nV w) (48 + 6) = w (48 + 6) := by rw [mu_ne (by decide), ec _ (by decide)]
        have q7 : mu (eM (nM w 1 9)) 48 0 (nV w) (48 + 7) = w (48 + 7) := by rw [mu_ne (by decide), ec _ (by decide)]
        have q8 : mu (eM (nM w 1 9)) 48 0 (nV w) (48 + 8) = w (48 + 8) := by rw [mu_ne (by decide), ec _ (by decide)]
        have q9 : mu (eM (nM w 1 9)) 48 0 (nV w) (48 + 9) = w (48 + 9) := by rw [mu_ne (by decide), ec _ (by decide)]
        have q10 : mu (eM (nM w 1 9)) 48 0 (nV w) (48 + 10) = w (48 + 10) := by rw [mu_ne (by decide), ec _ (by decide)]
        have q11 : mu (eM (nM w 1 9)) 48 0 (nV w) (48 + 11) = w (48 + 11) := by rw [mu_ne (by decide), ec _ (by decide)]
        rw [q4, q5, q6, q7, q8, q9, q10, q11, ej 26 (by decide) (by decide), ej 30 (by decide) (by decide), em 284 (by decide), em 285 (by decide), em 286 (by decide), em 288 (by decide), em 289 (by decide), em 290 (by decide)]
        exact d4
    · have hb := eM_bad hps hk1 d
      rw [if_neg (by omega), tCe_no hp1 d]
      exact Or.inr ⟨by show ¬ (1 : Int) = 0; decide, hb.1, by show _ = mu (heM p.2) 256 19 (hB p.2) 256 19; rw [mu_h]; exact hb.2⟩
  · have hb := nM_bad h hk c
    have hne : ¬ nM w 1 9 64 3 = 0 := by rw [hb.1]; exact c
    have hs := eM_st hne
    have hp1 : p.1 = (tkN t 1 9).1 := by rw [hp]
    rw [if_neg (by rw [hs.1]; exact hne), tCe_f (by rw [hp1]; exact c)]
    refine Or.inr ⟨by show ¬ p.1 = 0; rw [hp1]; exact c, by show _ = p.1; rw [hs.1, hb.1, hp1], ?_⟩
    show _ = mu p.2 256 20 (p.2 256 20 + 1) 256 19
    rw [mu_j (by decide), hp, hs.2, hb.2]
    rfl
theorem inTo_x {μ : Mem} {c : Nat} {k l g : Int} (hc : c ≠ 256) (j : Nat) : (inTo μ c k l g).2 256 j = (tkN μ l g).2 256 j := mu_c (Ne.symm hc)
theorem inTo_y {μ : Mem} {c d : Nat} {k l g : Int} (hc : d ≠ c) : (inTo μ c k l g).2 d = (tkN μ l g).2 d := mu_ne hc
theorem SdOK_cg {f g f2 g2 S Q : Row} {n : Nat} (h : ∀ r, r < n → f2 r = f r ∧ g2 r = g r) (H : SdOK f g n S Q) : SdOK f2 g2 n S Q := by
  refine ⟨fun p hp => by rw [H.1 p hp, cnt_cg n h], fun r p hr hp hq => ?_⟩
  rw [cnt_cg r (fun x hx => h x (by omega))]
  exact H.2 r p hr hp (by rw [← (h r hr).1, ← (h r hr).2]; exact hq)
/-- a road comes to the draft -/
theorem aRoad_rows {x : Mem} {a b k : Int} {n : Nat} (hn : x 48 1 = (n : Int)) (hab : ¬ a = b) (ha : 0 ≤ a) (hb : 0 ≤ b) : (∀ r, aRoad x 48 a b k (48 + 4) r = if r = n then a else x (48 + 4) r) ∧ (∀ r, aRoad x 48 a b k (48 + 5) r = if r = n then b else x (48 + 5) r) ∧ (∀ r, aRoad x 48 a b k (48 + 6) r = if r = n then k else x (48 + 6) r) ∧ aRoad x 48 a b k (48 + 10) = up (up (x (48 + 10)) a.toNat (x (48 + 10) a.toNat + 1)) b.toNat (x (48 + 10) b.toNat + 1) ∧ aRoad x 48 a b k (48 + 11) = up (up (x (48 + 11)) (5 * a + x (48 + 10) a.toNat).toNat n) (5 * b + x (48 + 10) b.toNat).toNat n ∧ (aRoad x 48 a b k 48 0 = x 48 0 ∧ aRoad x 48 a b k 48 1 = n + 1 ∧ aRoad x 48 a b k 48 2 = x 48 2) ∧ ∀ c, 55 ≤ c → c ≤ 57 → aRoad x 48 a b k c = x c := by
  have htn : (x 48 1).toNat = n := by omega
  unfold aRoad aSide
  rw [hn, Int.toNat_natCast]
  refine ⟨fun r => ?_, fun r => ?_, fun r => ?_, ?_, ?_, ⟨?_, ?_, ?_⟩, fun c h1 h2 => ?_⟩
  · rw [mu_c (by decide), mu_c (by decide), mu_c (by decide), mu_c (by decide), mu_c (by decide), mu_c (by decide), mu_c (by decide), mu_ap]
    by_cases e : r = n
    · rw [if_pos ⟨rfl, e⟩, if_pos e]
    · rw [if_neg (fun z => e z.2), if_neg e]
  · rw [mu_c (by decide), mu_c (by decide), mu_c (by decide), mu_c (by decide), mu_c (by decide), mu_c (by decide), mu_ap, mu_c (by decide)]
    by_cases e : r = n
    · rw [if_pos ⟨rfl, e⟩, if_pos e]
    · rw [if_neg (fun z => e z.2), if_neg e]
  · rw [mu_c (by decide), mu_c (by decide), mu_c (by decide), mu_c (by decide), mu_c (by decide), mu_ap, mu_c (by decide), mu_c (by decide)]
    by_cases e : r = n
    · rw [if_pos ⟨rfl, e⟩, if_pos e]
    · rw [if_neg (fun z => e z.2), if_neg e]
  · have hne : b.toNat ≠ a.toNat := by omega
    funext r
    simp only [mu, up]
    by_cases e1 : r = b.toNat
    · subst e1; simp [hne]
    · by_cases e2 : r = a.toNat
      · subst e2; simp [e1]
      · simp [e1, e2]
  · have hne : b.toNat ≠ a.toNat := by omega
    funext r
    have e5 : ∀ z : Int, (a * 5 + z).toNat = (5 * a + z).toNat := fun z => by congr 1; omega
    have e6 : ∀ z : Int, (b * 5 + z).toNat = (5 * b + z).toNat := fun z => by congr 1; omega
    simp only [mu, up]
    simp [hne, e5, e6]
  · rw [mu_j (by decide), mu_c (by decide), mu_c (by decide), mu_c (by decide), mu_c (by decide), mu_c (by decide), mu_c (by decide), mu_c (by decide)]
  · rw [mu_h]
  · rw [mu_j (by decide), mu_c (by decide), mu_c (by decide), mu_c (by decide), mu_c (by decide), mu_c (by decide), mu_c (by decide), mu_c (by decide)]
  · rw [mu_ne (by omega), mu_ne (by omega), mu_ne (by omega), mu_ne (by omega), mu_ne (by omega), mu_ne (by omega), mu_ne (by omega), mu_ne (by omega)]
theorem may_iff {x m n : Mem} (hD : DRJ x m) (hP : m 256 25 ≤ 9) (hn : 0 ≤ m 256 26) {a b : Int} (ha : 0 ≤ a ∧ a < m 256 25) (hb : 0 ≤ b ∧ b < m 256 25) (h26 : n 256 26 = m 256 26) (h : ∀ r : Nat, (r : Int) < m 256 26 → n 284 r = m 284 r ∧ n 285 r = m 285 r) : mJn x a b ↔ mayR n a b (m 256 26) := by
  obtain ⟨⟨d1, d2, d3⟩, d4, d5, d6, d7⟩ := hD
  have key : ∀ p : Int, (0 ≤ p ∧ p < m 256 25) → gSd x 48 p = rAt n p := fun p hp => by
    rw [rAt_cnt, h26, cnt_cg (f := m 284) (g := m 285) (m 256 26).toNat (fun r hr => h r (by omega))]
    have := d6.1 p.toNat (by omega)
    rw [show ((p.toNat : Nat) : Int) = p by omega] at this
    unfold gSd
    rw [if_pos (by omega)]
    exact this
  unfold mJn mayR
  rw [key a ha, key b hb, d2]
  have hj : (∀ r : Nat, r < (m 256 26).toNat → ¬ jn x 48 a b r) ↔ (∀ r : Nat, r < (m 256 26).toNat → okr n a b r) := by
    constructor
    · intro q r hr
      have := q r hr
      have e := d4 r (by omega)
      have e2 := h r (by omega)
      unfold jn at this
      rw [e.1, e.2.1] at this
      unfold okr
      rw [e2.1, e2.2]
      exact ⟨fun z => this (Or.inl z), fun z => this (Or.inr z)⟩
    · intro q r hr
      have := q r hr
      have e := d4 r (by omega)
      have e2 := h r (by omega)
      unfold okr at this
      rw [e2.1, e2.2] at this
      unfold jn
      rw [e.1, e.2.1]
      rintro (z | z)
      · exact this.1 z
      · exact this.2 z
  rw [hj]
  constructor
  · rintro ⟨q1, q2, q3, q4⟩; exact ⟨⟨q1, q3, q4⟩, q2⟩
  · rintro ⟨⟨q1, q3, q4⟩, q2⟩; exact ⟨q1, q2, q3, q4⟩
theorem rdT_st {x : Mem} {a b : Int} (h : ¬ nM x 1 99 64 3 = 0) : rdT x a b 64 3 = nM x 1 99 64 3 ∧ rdT x a b 64 4 = nM x 1 99 64 4 := by
  have := eM_st h
  unfold rdT
  rw [if_neg (by rw [this.1]; exact h)]
  exact this
theorem rdG_st {x : Mem} {a b : Int} (h : ¬ nM x 1 99 64 3 = 0) : rdG x a b 64 3 = nM x 1 99 64 3 ∧ rdG x a b 64 4 = nM x 1 99 64 4 := by
  have := eM_st h
  unfold rdG
  rw [if_neg (by rw [this.1]; exact h)]
  exact this
/-- a road -/
theorem cl_road {w t : Mem} (h : PS w t) (hI : PRI t) (hk : w 64 3 = 0) (hf : w 64 4 = -1) (hm : t 256 19 = -1) (hD : DRJ w t) (hn : t 256 26 < 14) {f : Int} : CR (rRd w f) (tCe (tkR t)) := by
  obtain ⟨⟨d1, d2, d3⟩, d4, d5, d6, d7⟩ := id hD
  have hM := hI.1
  have hn0 := hM.2.1.1
  have hP9 := hM.2.2.1
  have bad : ∀ z : Int × Mem, tkR t = z → ¬ z.1 = 0 → rRd w f 64 3 = z.1 → rRd w f 64 4 = z.2 256 19 → CR (rRd w f) (tCe (tkR t)) := fun z e1 e2 e3 e4 => by
    rw [e1, tCe_f e2]
    exact Or.inr ⟨e2, e3, e4⟩
  have eR : rRd w f = rdT (r4 w) (nV w) (nV (r2 w)) := by unfold rRd; rw [if_neg (by omega)]
  have er1 : r1 w = nM w 0 (t 256 25 - 1) := by unfold r1; rw [d1]
  have r4n : ¬ r3 w 64 3 = 0 → r4 w = r3 w := fun q => by unfold r4; rw [if_neg (fun z => q z.1)]
  by_cases c1 : (tkN t 0 (t 256 25 - 1)).1 = 0
  · obtain ⟨a1, a2, a3⟩ := nM_ok h c1
    rw [← er1] at a1 a3
    have hk1 : r1 w 64 3 = 0 := by rw [a1, mu_j (by decide)]; exact hk
    have hf1 : r1 w 64 4 = -1 := by rw [a1, mu_j (by decide)]; exact hf
    have et1 : (tR1 t).1 = 0 := c1
    have p1 : PS (r1 w) (tR1 t).2 := PS_m a3 (inTo_x (by decide) 18) (inTo_y (by decide)) (inTo_x (by decide) 20) (MX_in h.2.2.2 (by decide) _ _ _)
    have p2 : PS (r2 w) (tR1 t).2 := PS_c p1 (sg_c (by decide) (by decide)) (nB_sk p1.2.2.1) (RI_sk p1.2.2.1)
    have hk2 : r2 w 64 3 = 0 := by rw [r2_3]; exact hk1
    have hf2 : r2 w 64 4 = -1 := by unfold r2; rw [skM_4]; exact hf1
    have e25 : r2 w 48 0 = (tR1 t).2 256 25 := by rw [r2_c (by decide), tR1_25]; exact d1
    have er3 : r3 w = nM (r2 w) 0 ((tR1 t).2 256 25 - 1) := by unfold r3; rw [e25]
    have t2 : tR2 t = inTo (tR1 t).2 285 (t 256 26) 0 ((tR1 t).2 256 25 - 1) := tR2_0 (by omega)
    by_cases c2 : (tkN (tR1 t).2 0 ((tR1 t).2 256 25 - 1)).1 = 0
    · obtain ⟨b1, b2, b3⟩ := nM_ok p2 c2
      rw [← er3] at b1 b3
      have hk3 : r3 w 64 3 = 0 := by rw [b1, mu_j (by decide)]; exact hk2
      have hf3 : r3 w 64 4 = -1 := by rw [b1, mu_j (by decide)]; exact hf2
      have z2 : (tR2 t).1 = 0 := by rw [t2]; exact c2
      have p3 : PS (r3 w) (tR2 t).2 := by rw [t2]; exact PS_m b3 (inTo_x (by decide) 18) (inTo_y (by decide)) (inTo_x (by decide) 20) (MX_in p1.2.2.2 (by decide) _ _ _)
      obtain ⟨⟨o1, o2⟩, ⟨o3, o4⟩, o5, o6, o7⟩ := tR2_ok (μ := t) (by omega)
      have g := tR2_r hM
      have tk : tkR t = tR3 t (tR2 t).2 := by unfold tkR; rw [if_neg (by omega)]
      have old : ∀ r : Nat, (r : Int) < t 256 26 → (tR2 t).2 284 r = t 284 r ∧ (tR2 t).2 285 r = t 285 r := fun r hr => by
        rw [t2, inTo_c (by decide) (by decide), inTo_n (by decide) (by omega)]
        refine ⟨inTo_n (by decide) (by omega), ?_⟩
        exact congrFun (inTo_c (by decide) (by decide)) r
      have hD3 : DRJ (r3 w) t := DRJ_c (fun k x y => r3_c (by omega)) hD
      have mi := may_iff hD3 (by omega) hn0.1 (a := hV t) (b := hV (tR1 t).2) (by omega) (by omega) g.2.2.1 old
      have eT3 : tR3 t (tR2 t).2 = if mayR (tR2 t).2 (hV t) (hV (tR1 t).2) (t 256 26) then ((inTo (tR2 t).2 286 (t 256 26) 1 99).1, mu (inTo (tR2 t).2 286 (t 256 26) 1 99).2 256 26 ((inTo (tR2 t).2 286 (t 256 26) 1 99).2 256 26 + 1)) else (4, mu (tR2 t).2 256 19 ((tR2 t).2 256 24)) := by unfold tR3; rw [o2, o4]
      by_cases c3 : mayR (tR2 t).2 (hV t) (hV (tR1 t).2) (t 256 26)
      · have e4 : r4 w = r3 w := by unfold r4; rw [a2, b2, if_neg (fun z => z.2 (mi.mpr c3))]
        rw [if_pos c3] at eT3
        by_cases c4 : (tkN (tR2 t).2 1 99).1 = 0
        · obtain ⟨f1, f2, f3⟩ := nM_ok p3 c4
          have z0 : (tkR t).1 = 0 := by rw [tk, eT3]; exact c4
          obtain ⟨s1, s2, s3, s4, s5, s6, s7, s8, s9, s10, s11, s12⟩ := tkR_sh hM z0
          have hk4 : nM (r3 w) 1 99 64 3 = 0 := by rw [f1, mu_j (by decide)]; exact hk3
          have hf4 : nM (r3 w) 1 99 64 4 = -1 := by rw [f1, mu_j (by decide)]; exact hf3
          have ep : (tkR t).2 = mu (mu (tkN (tR2 t).2 1 99).2 286 (t 256 26).toNat ((tkN (tR2 t).2 1 99).2 256 23)) 256 26 ((inTo (tR2 t).2 286 (t 256 26) 1 99).2 256 26 + 1) := by rw [tk, eT3]; rfl
          have p4 : PS (nM (r3 w) 1 99) (tkR t).2 := by
            rw [ep]
            refine PS_m f3 (by rw [mu_j (by decide), mu_c (by decide)]) (by rw [mu_ne (by decide), mu_ne (by decide)]) (by rw [mu_j (by decide), mu_c (by decide)]) (MX_mu (MX_c f3.2.2.2 (by decide) (by decide)) (by decide) (by decide))
          have h19 : (tkR t).2 256 19 = -1 := by
            rw [ep, mu_j (by decide), mu_c (by decide), tkN_19 c4, t2]
            rw [inTo_x (by decide), tkN_19 c2]
            exact ((inTo_x (by decide) 19).trans (tkN_19 c1)).trans hm
          rw [eR, e4]
          by_cases d : sgm (tkR t).2 (hB (tkR t).2) = 59
          · have hz : eM (nM (r3 w) 1 99) 64 3 = 0 := by rw [eM_ok p4 d, mu_j (by decide)]; exact hk4
            have eX : rdT (r3 w) (nV w) (nV (r2 w)) = aRoad (eM (nM (r3 w) 1 99)) 48 (hV t) (hV (tR1 t).2) (hV (tR2 t).2) := by unfold rdT; rw [if_pos hz, a2, b2, f2]
            rw [eX, tCe_59 z0 d]
            have ec : ∀ k, k ≠ 64 → eM (nM (r3 w) 1 99) k = w k := fun k q => by rw [eM_c q, nM_c q, r3_c q]
            obtain ⟨n, en⟩ : ∃ n : Nat, t 256 26 = (n : Int) := ⟨(t 256 26).toNat, by omega⟩
            have etn : (t 256 26).toNat = n := by omega
            have hab : ¬ hV t = hV (tR1 t).2 := s2.1.1
            obtain ⟨q1, q2, q3, q4, q5, ⟨q6, q7, q8⟩, q9⟩ := aRoad_rows (x := eM (nM (r3 w) 1 99)) (a := hV t) (b := hV (tR1 t).2) (k := hV (tR2 t).2) (n := n) (by rw [ec 48 (by decide), d2, en]) hab (by omega) (by omega)
            refine Or.inl ⟨rfl, J0_mk p4 d (fun k hk => aRoad_c hk) hk4 hf4 h19 ?_⟩
            rw [etn] at s3 s4 s5 d6 d7
            rw [en] at d4 s6
            have t25 : (tkR t).2 256 25 = t 256 25 := s7 25 (by decide) (by decide)
            have t30 : (tkR t).2 256 30 = t 256 30 := s7 30 (by decide) (by decide)
            have ent : ((tkR t).2 256 26).toNat = n + 1 := by rw [s6]; omega
            refine ⟨⟨by rw [q6, ec 48 (by decide), t25]; exact d1, by rw [q7, s6], by rw [q8, ec 48 (by decide), t30]; exact d3⟩, fun r hr => ?_, ?_, ?_, ?_⟩
            · rw [s6] at hr
              rw [q1, q2, q3, s3, s4, s5, ec (48 + 4) (by decide), ec (48 + 5) (by decide), ec (48 + 6) (by decide)]
              by_cases e : r = n
              · simp only [if_pos e, and_self]
              · simp only [if_neg e]; exact d4 r (by omega)
            · rw [t30, q9 (48 + 7) (by decide) (by decide), q9 (48 + 8) (by decide) (by decide), q9 (48 + 9) (by decide) (by decide), ec (48 + 7) (by decide), ec (48 + 8) (by decide), ec (48 + 9) (by decide), s8 288 (by decide) (by decide) (by decide) (by decide), s8 289 (by decide) (by decide) (by decide) (by decide), s8 290 (by decide) (by decide) (by decide) (by decide)]
              exact d5
            · rw [ent, q4, q5, ec (48 + 10) (by decide), ec (48 + 11) (by decide)]
              have hcf : ∀ r, r < n → (tkR t).2 284 r = t 284 r ∧ (tkR t).2 285 r = t 285 r := fun r hr => by rw [s3, s4, if_neg (by omega), if_neg (by omega)]; exact ⟨rfl, rfl⟩
              refine SdOK_step (SdOK_cg hcf d6) (by rw [s3, if_pos rfl]) (by rw [s4, if_pos rfl]) (by omega) (by omega) hab (fun p => ?_)
              rw [cnt_s, cnt_cg n hcf]
              have hc5 := hI.2.2.1 p
              rw [etn] at hc5
              have ra : ∀ q : Int, rAt (tR2 t).2 q = cnt (t 284) (t 285) q n := fun q => by
                rw [rAt_cnt, g.2.2.1, etn, cnt_cg n (fun r hr => old r (by omega))]
              have m1 := s2.1.2.1
              have m2 := s2.1.2.2
              rw [ra] at m1 m2
              by_cases e : (tkR t).2 284 n = p ∨ (tkR t).2 285 n = p
              · rw [if_pos e]
                rw [s3, s4, if_pos rfl, if_pos rfl] at e
                rcases e with e | e
                · rw [← e]; omega
                · rw [← e]; omega
              · rw [if_neg e]; omega
            · rw [ent]
              intro r s hrs hs
              have y1 : (tkR t).2 284 r = t 284 r := by rw [s3, if_neg (by omega)]
              have y2 : (tkR t).2 285 r = t 285 r := by rw [s4, if_neg (by omega)]
              rw [y1, y2, s3 s, s4 s]
              by_cases e : s = n
              · rw [if_pos e, if_pos e]
                have := s2.2 r (by omega)
                have o := old r (by omega)
                unfold okr at this
                rw [o.1, o.2] at this
                rintro (z | z)
                · exact this.1 z
                · exact this.2 z
              · rw [if_neg e, if_neg e]; exact d7 r s hrs (by omega)
          · have hb := eM_bad p4 hk4 d
            rw [tCe_no z0 d]
            have : rdT (r3 w) (nV w) (nV (r2 w)) = eM (nM (r3 w) 1 99) := by unfold rdT; rw [if_neg (by omega)]
            rw [this]
            exact Or.inr ⟨by show ¬ (1 : Int) = 0; decide, hb.1, hb.2⟩
        · have hb := nM_bad p3 hk3 c4
          have hne : ¬ nM (r3 w) 1 99 64 3 = 0 := by rw [hb.1]; exact c4
          have st := rdT_st (a := nV w) (b := nV (r2 w)) hne
          refine bad _ (tk.trans eT3) c4 (by rw [eR, e4, st.1, hb.1]; rfl) ?_
          rw [eR, e4, st.2, hb.2]
          rfl
      · rw [if_neg c3] at eT3
        have e4 : r4 w = blm (r3 w) 4 (nB (r1 w)) := by unfold r4; rw [a2, b2, if_pos ⟨hk3, fun z => c3 (mi.mp z)⟩]
        have k4 : r4 w 64 3 = 4 ∧ r4 w 64 4 = nB (r1 w) := by rw [e4, blm_0 hk3, mu_j (by decide), mu_h, mu_h]; exact ⟨rfl, rfl⟩
        have n4 := nM_st (c := r4 w) (by omega) (l := 1) (g := 99)
        have st := rdT_st (x := r4 w) (a := nV w) (b := nV (r2 w)) (by omega)
        refine bad _ (tk.trans eT3) (by show ¬ (4 : Int) = 0; decide) (by rw [eR, st.1, n4.1, k4.1]) ?_
        rw [eR, st.2, n4.2, k4.2]
        exact p1.2.1.trans o7.symm
    · have hb := nM_bad p2 hk2 c2
      rw [← er3] at hb
      have n3 : ¬ r3 w 64 3 = 0 := by rw [hb.1]; exact c2
      have n4 := nM_st n3 (l := 1) (g := 99)
      have st := rdT_st (x := r3 w) (a := nV w) (b := nV (r2 w)) (by rw [n4.1]; exact n3)
      have z2 : ¬ (tR2 t).1 = 0 := by rw [t2]; exact c2
      have f012 := inTo_f (tR1 t).2 285 (t 256 26) 0 ((tR1 t).2 256 25 - 1)
      have tk : tkR t = tR2 t := by unfold tkR; rw [if_pos (by rw [t2] at z2 ⊢; omega)]
      refine bad _ (tk.trans t2) (by rw [← t2]; exact z2) (by rw [eR, r4n n3, st.1, n4.1, hb.1]; rfl) ?_
      rw [eR, r4n n3, st.2, n4.2, hb.2]
      rfl
  · have hb := nM_bad h hk c1
    rw [← er1] at hb
    have n1 : ¬ r1 w 64 3 = 0 := by rw [hb.1]; exact c1
    have n2 : r2 w 64 3 = r1 w 64 3 ∧ r2 w 64 4 = r1 w 64 4 := ⟨r2_3, by unfold r2; rw [skM_4]⟩
    have n3 : r3 w 64 3 = r1 w 64 3 ∧ r3 w 64 4 = r1 w 64 4 := by
      have := nM_st (c := r2 w) (by rw [n2.1]; exact n1) (l := 0) (g := r2 w 48 0 - 1)
      exact ⟨this.1.trans n2.1, this.2.trans n2.2⟩
    have n3' : ¬ r3 w 64 3 = 0 := by rw [n3.1]; exact n1
    have n4 := nM_st n3' (l := 1) (g := 99)
    have st := rdT_st (x := r3 w) (a := nV w) (b := nV (r2 w)) (by rw [n4.1]; exact n3')
    have f012 := inTo_f t 284 (t 256 26) 0 (t 256 25 - 1)
    have z1 : ¬ (tR1 t).1 = 0 := c1
    have tk : tkR t = tR1 t := by
      have e : tR2 t = tR1 t := by unfold tR2; rw [if_pos (by unfold tR1 at z1 ⊢; omega)]
      unfold tkR; rw [e, if_pos (by unfold tR1 at z1 ⊢; omega)]
    refine bad _ tk z1 (by rw [eR, r4n n3', st.1, n4.1, n3.1, hb.1]; rfl) ?_
    rw [eR, r4n n3', st.2, n4.2, n3.2, hb.2]
    rfl
theorem aTrav_rows {x : Mem} {a b k : Int} {n : Nat} (hn : x 48 2 = (n : Int)) : (∀ r, aTrav x 48 a b k (48 + 7) r = if r = n then a else x (48 + 7) r) ∧ (∀ r, aTrav x 48 a b k (48 + 8) r = if r = n then b else x (48 + 8) r) ∧ (∀ r, aTrav x 48 a b k (48 + 9) r = if r = n then k else x (48 + 9) r) ∧ (aTrav x 48 a b k 48 0 = x 48 0 ∧ aTrav x 48 a b k 48 1 = x 48 1 ∧ aTrav x 48 a b k 48 2 = n + 1) ∧ ∀ c, c ≠ 48 → c ≠ 55 → c ≠ 56 → c ≠ 57 → aTrav x 48 a b k c = x c := by
  unfold aTrav
  rw [hn, Int.toNat_natCast]
  refine ⟨fun r => ?_, fun r => ?_, fun r => ?_, ⟨?_, ?_, ?_⟩, fun c h1 h2 h3 h4 => ?_⟩
  · rw [mu_c (by decide), mu_c (by decide), mu_c (by decide), mu_ap]
    by_cases e : r = n
    · rw [if_pos ⟨rfl, e⟩, if_pos e]
    · rw [if_neg (fun z => e z.2), if_neg e]
  · rw [mu_c (by decide), mu_c (by decide), mu_ap, mu_c (by decide)]
    by_cases e : r = n
    · rw [if_pos ⟨rfl, e⟩, if_pos e]
    · rw [if_neg (fun z => e z.2), if_neg e]
  · rw [mu_c (by decide), mu_ap, mu_c (by decide), mu_c (by decide)]
    by_cases e : r = n
    · rw [if_pos ⟨rfl, e⟩, if_pos e]
    · rw [if_neg (fun z => e z.2), if_neg e]
  · rw [mu_j (by decide), mu_c (by decide), mu_c (by decide), mu_c (by decide)]
  · rw [mu_j (by decide), mu_c (by decide), mu_c (by decide), mu_c (by decide)]
  · rw [mu_h]
  · rw [mu_ne h1, mu_ne (by omega), mu_ne (by omega), mu_ne (by omega)]
/-- a travel -/
theorem cl_travel {w t : Mem} (h : PS w t) (hI : PRI t) (hk : w 64 3 = 0) (hf : w 64 4 = -1) (hm : t 256 19 = -1) (hD : DRJ w t) (hn : t 256 30 < 20) {f : Int} : CR (rTv w f) (tCe (tkT t)) := by
  obtain ⟨⟨d1, d2, d3⟩, d4, d5, d6, d7⟩ := id hD
  have hM := hI.1
  have hn0 := hM.2.2.2
  have hP9 := hM.2.2.1
  have bad : ∀ z : Int × Mem, tkT t = z → ¬ z.1 = 0 → rTv w f 64 3 = z.1 → rTv w f 64 4 = z.2 256 19 → CR (rTv w f) (tCe (tkT t)) := fun z e1 e2 e3 e4 => by
    rw [e1, tCe_f e2]
    exact Or.inr ⟨e2, e3, e4⟩
  have eR : rTv w f = rdG (r5 w) (nV w) (nV (r2 w)) := by unfold rTv; rw [if_neg (by omega)]
  have er1 : r1 w = nM w 0 (t 256 25 - 1) := by unfold r1; rw [d1]
  have r5n : ¬ r3 w 64 3 = 0 → r5 w = r3 w := fun q => by unfold r5; rw [blm_n q, ite_self]
  by_cases c1 : (tkN t 0 (t 256 25 - 1)).1 = 0
  · obtain ⟨a1, a2, a3⟩ := nM_ok h c1
    rw [← er1] at a1 a3
    have hk1 : r1 w 64 3 = 0 := by rw [a1, mu_j (by decide)]; exact hk
    have hf1 : r1 w 64 4 = -1 := by rw [a1, mu_j (by decide)]; exact hf
    have et1 : (tT1 t).1 = 0 := c1
    have p1 : PS (r1 w) (tT1 t).2 := PS_m a3 (inTo_x (by decide) 18) (inTo_y (by decide)) (inTo_x (by decide) 20) (MX_in h.2.2.2 (by decide) _ _ _)
    have p2 : PS (r2 w) (tT1 t).2 := PS_c p1 (sg_c (by decide) (by decide)) (nB_sk p1.2.2.1) (RI_sk p1.2.2.1)
    have hk2 : r2 w 64 3 = 0 := by rw [r2_3]; exact hk1
    have hf2 : r2 w 64 4 = -1 := by unfold r2; rw [skM_4]; exact hf1
    have e25 : r2 w 48 0 = (tT1 t).2 256 25 := by rw [r2_c (by decide), tT1_25]; exact d1
    have er3 : r3 w = nM (r2 w) 0 ((tT1 t).2 256 25 - 1) := by unfold r3; rw [e25]
    have t2 : tT2 t = inTo (tT1 t).2 289 (t 256 30) 0 ((tT1 t).2 256 25 - 1) := tT2_0 (by omega)
    by_cases c2 : (tkN (tT1 t).2 0 ((tT1 t).2 256 25 - 1)).1 = 0
    · obtain ⟨b1, b2, b3⟩ := nM_ok p2 c2
      rw [← er3] at b1 b3
      have hk3 : r3 w 64 3 = 0 := by rw [b1, mu_j (by decide)]; exact hk2
      have hf3 : r3 w 64 4 = -1 := by rw [b1, mu_j (by decide)]; exact hf2
      have z2 : (tT2 t).1 = 0 := by rw [t2]; exact c2
      have p3 : PS (r3 w) (tT2 t).2 := by rw [t2]; exact PS_m b3 (inTo_x (by decide) 18) (inTo_y (by decide)) (inTo_x (by decide) 20) (MX_in p1.2.2.2 (by decide) _ _ _)
      obtain ⟨⟨o1, o2⟩, ⟨o3, o4⟩, o5, o6, o7⟩ := tT2_ok (μ := t) (by omega)
      have g := tT2_r hM
      have tk : tkT t = tT3 t (tT2 t).2 := by unfold tkT; rw [if_neg (by omega)]
      have eT3 : tT3 t (tT2 t).2 = if hV t = hV (tT1 t).2 then (4, mu (tT2 t).2 256 19 ((tT2 t).2 256 24)) else inTo (mu (tT2 t).2 256 30 (t 256 30 + 1)) 290 (t 256 30) 1 99 := by unfold tT3; rw [o2, o4, g.2.1]
      by_cases c3 : hV t = hV (tT1 t).2
      · rw [if_pos c3] at eT3
        have e4 : r5 w = blm (r3 w) 4 (nB (r1 w)) := by unfold r5; rw [a2, b2, if_pos c3]
        have k4 : r5 w 64 3 = 4 ∧ r5 w 64 4 = nB (r1 w) := by rw [e4, blm_0 hk3, mu_j (by decide), mu_h, mu_h]; exact ⟨rfl, rfl⟩
        have n4 := nM_st (c := r5 w) (by omega) (l := 1) (g := 99)
        have st := rdG_st (x := r5 w) (a := nV w) (b := nV (r2 w)) (by omega)
        refine bad _ (tk.trans eT3) (by show ¬ (4 : Int) = 0; decide) (by rw [eR, st.1, n4.1, k4.1]) ?_
        rw [eR, st.2, n4.2, k4.2]
        exact p1.2.1.trans o7.symm
      · have e4 : r5 w = r3 w := by unfold r5; rw [a2, b2, if_neg c3]
        rw [if_neg c3] at eT3
        obtain ⟨x2, hx2⟩ : ∃ x2, x2 = mu (tT2 t).2 256 30 (t 256 30 + 1) := ⟨_, rfl⟩
        rw [← hx2] at eT3
        have p3' : PS (r3 w) x2 := by rw [hx2]; exact PS_m p3 (mu_j (by decide)) (mu_ne (by decide)) (mu_j (by decide)) (MX_mu p3.2.2.2 (by decide) (by decide))
        by_cases c4 : (tkN x2 1 99).1 = 0
        · obtain ⟨f1, f2, f3⟩ := nM_ok p3' c4
          have z0 : (tkT t).1 = 0 := by rw [tk, eT3]; exact c4
          obtain ⟨s1, s2, s3, s4, s5, s6, s7, s8, s9, s10, s11, s12⟩ := tkT_sh hM z0
          rw [← hx2] at s5
          have hk4 : nM (r3 w) 1 99 64 3 = 0 := by rw [f1, mu_j (by decide)]; exact hk3
          have hf4 : nM (r3 w) 1 99 64 4 = -1 := by rw [f1, mu_j (by decide)]; exact hf3
          have ep : (tkT t).2 = (inTo x2 290 (t 256 30) 1 99).2 := by rw [tk, eT3]
          have p4 : PS (nM (r3 w) 1 99) (tkT t).2 := by
            rw [ep]
            exact PS_m f3 (inTo_x (by decide) 18) (inTo_y (by decide)) (inTo_x (by decide) 20) (MX_in p3'.2.2.2 (by decide) _ _ _)
          have h19 : (tkT t).2 256 19 = -1 := by
            rw [ep, inTo_x (by decide), tkN_19 c4, hx2, mu_j (by decide), t2, inTo_x (by decide), tkN_19 c2]
            exact ((inTo_x (by decide) 19).trans (tkN_19 c1)).trans hm
          rw [eR, e4]
          by_cases d : sgm (tkT t).2 (hB (tkT t).2) = 59
          · have hz : eM (nM (r3 w) 1 99) 64 3 = 0 := by rw [eM_ok p4 d, mu_j (by decide)]; exact hk4
            have eX : rdG (r3 w) (nV w) (nV (r2 w)) = aTrav (eM (nM (r3 w) 1 99)) 48 (hV t) (hV (tT1 t).2) (hV x2) := by unfold rdG; rw [if_pos hz, a2, b2, f2]
            rw [eX, tCe_59 z0 d]
            have ec : ∀ k, k ≠ 64 → eM (nM (r3 w) 1 99) k = w k := fun k q => by rw [eM_c q, nM_c q, r3_c q]
            obtain ⟨n, en⟩ : ∃ n : Nat, t 256 30 = (n : Int) := ⟨(t 256 30).toNat, by omega⟩
            have etn : (t 256 30).toNat = n := by omega
            obtain ⟨q1, q2, q3, ⟨q6, q7, q8⟩, q9⟩ := aTrav_rows (x := eM (nM (r3 w) 1 99)) (a := hV t) (b := hV (tT1 t).2) (k := hV x2) (n := n) (by rw [ec 48 (by decide), d3, en])
            refine Or.inl ⟨rfl, J0_mk p4 d (fun k hk => aTrav_c (by omega)) hk4 hf4 h19 ?_⟩
            rw [etn] at s3 s4 s5
            rw [en] at d5 s6
            have t25 : (tkT t).2 256 25 = t 256 25 := s7 25 (by decide) (by decide)
            have t26 : (tkT t).2 256 26 = t 256 26 := s7 26 (by decide) (by decide)
            refine ⟨⟨by rw [q6, ec 48 (by decide), t25]; exact d1, by rw [q7, ec 48 (by decide), t26]; exact d2, by rw [q8, s6]⟩, ?_, fun r hr => ?_, ?_, ?_⟩
            · rw [t26, q9 (48 + 4) (by decide) (by decide) (by decide) (by decide), q9 (48 + 5) (by decide) (by decide) (by decide) (by decide), q9 (48 + 6) (by decide) (by decide) (by decide) (by decide), ec (48 + 4) (by decide), ec (48 + 5) (by decide), ec (48 + 6) (by decide), s8 284 (by decide) (by decide) (by decide) (by decide), s8 285 (by decide) (by decide) (by decide) (by decide), s8 286 (by decide) (by decide) (by decide) (by decide)]
              exact d4
            · rw [s6] at hr
              rw [q1, q2, q3, s3, s4, s5, ec (48 + 7) (by decide), ec (48 + 8) (by decide), ec (48 + 9) (by decide)]
              by_cases e : r = n
              · simp only [if_pos e, and_self]
              · simp only [if_neg e]; exact d5 r (by omega)
            · rw [t26, q9 (48 + 10) (by decide) (by decide) (by decide) (by decide), q9 (48 + 11) (by decide) (by decide) (by decide) (by decide), ec (48 + 10) (by decide), ec (48 + 11) (by decide), s8 284 (by decide) (by decide) (by decide) (by decide), s8 285 (by decide) (by decide) (by decide) (by decide)]
              exact d6
            · rw [t26, s8 284 (by decide) (by decide) (by decide) (by decide), s8 285 (by decide) (by decide) (by decide) (by decide)]
              exact d7
          · have hb := eM_bad p4 hk4 d
            rw [tCe_no z0 d]
            have : rdG (r3 w) (nV w) (nV (r2 w)) = eM (nM (r3 w) 1 99) := by unfold rdG; rw [if_neg (by omega)]
            rw [this]
            exact Or.inr ⟨by show ¬ (1 : Int) = 0; decide, hb.1, hb.2⟩
        · have hb := nM_bad p3' hk3 c4
          have hne : ¬ nM (r3 w) 1 99 64 3 = 0 := by rw [hb.1]; exact c4
          have st := rdG_st (a := nV w) (b := nV (r2 w)) hne
          refine bad _ (tk.trans eT3) c4 (by rw [eR, e4, st.1, hb.1]; rfl) ?_
          rw [eR, e4, st.2, hb.2]
          rfl
    · have hb := nM_bad p2 hk2 c2
      rw [← er3] at hb
      have n3 : ¬ r3 w 64 3 = 0 := by rw [hb.1]; exact c2
      have n4 := nM_st n3 (l := 1) (g := 99)
      have st := rdG_st (x := r3 w) (a := nV w) (b := nV (r2 w)) (by rw [n4.1]; exact n3)
      have z2 : ¬ (tT2 t).1 = 0 := by rw [t2]; exact c2
      have f012 := inTo_f (tT1 t).2 289 (t 256 30) 0 ((tT1 t).2 256 25 - 1)
      have tk : tkT t = tT2 t := by unfold tkT; rw [if_pos (by rw [t2] at z2 ⊢; omega)]
      refine bad _ (tk.trans t2) (by rw [← t2]; exact z2) (by rw [eR, r5n n3, st.1, n4.1, hb.1]; rfl) ?_
      rw [eR, r5n n3, st.2, n4.2, hb.2]
      rfl
  · have hb := nM_bad h hk c1
    rw [← er1] at hb
    have n1 : ¬ r1 w 64 3 = 0 := by rw [hb.1]; exact c1
    have n2 : r2 w 64 3 = r1 w 64 3 ∧ r2 w 64 4 = r1 w 64 4 := ⟨r2_3, by unfold r2; rw [skM_4]⟩
    have n3 : r3 w 64 3 = r1 w 64 3 ∧ r3 w 64 4 = r1 w 64 4 := by
      have := nM_st (c := r2 w) (by rw [n2.1]; exact n1) (l := 0) (g := r2 w 48 0 - 1)
      exact ⟨this.1.trans n2.1, this.2.trans n2.2⟩
    have n3' : ¬ r3 w 64 3 = 0 := by rw [n3.1]; exact n1
    have n4 := nM_st n3' (l := 1) (g := 99)
    have st := rdG_st (x := r3 w) (a := nV w) (b := nV (r2 w)) (by rw [n4.1]; exact n3')
    have f012 := inTo_f t 288 (t 256 30) 0 (t 256 25 - 1)
    have z1 : ¬ (tT1 t).1 = 0 := c1
    have tk : tkT t = tT1 t := by
      have e : tT2 t = tT1 t := by unfold tT2; rw [if_pos (by unfold tT1 at z1 ⊢; omega)]
      unfold tkT; rw [e, if_pos (by unfold tT1 at z1 ⊢; omega)]
    refine bad _ tk z1 (by rw [eR, r5n n3', st.1, n4.1, n3.1, hb.1]; rfl) ?_
    rw [eR, r5n n3', st.2, n4.2, n3.2, hb.2]
    rfl

/-! THE REFERENCE FINDS THE LAND -/
/-- how many of the first n roads are at p -/
def cnt (f g : Row) (p : Int) : Nat → Int
  | 0 => 0
  | n + 1 => cnt f g p n + if f n = p ∨ g n = p then 1 else 0
theorem cnt_s {f g : Row} {p : Int} {n : Nat} : cnt f g p (n + 1) = cnt f g p n + if f n = p ∨ g n = p then 1 else 0 := rfl
theorem cnt_mono {f g : Row} {p : Int} : ∀ (m n : Nat), n ≤ m → 0 ≤ cnt f g p n ∧ cnt f g p n ≤ cnt f g p m := by
  intro m
  induction m with
  | zero => intro n h; obtain rfl : n = 0 := by omega
            exact ⟨Int.le_refl _, Int.le_refl _⟩
  | succ m ih =>
    intro n h
    rw [cnt_s]
    by_cases e : n = m + 1
    · subst e
      have := ih m (Nat.le_refl _)
      rw [cnt_s]
      split <;> omega
    · have := ih n (by omega)
      split <;> omega
theorem cnt_lt {f g : Row} {p : Int} {m n : Nat} (h : n < m) (hn : f n = p ∨ g n = p) : cnt f g p n < cnt f g p m := by
  have := (cnt_mono (f := f) (g := g) (p := p) m (n + 1) h).2
  rw [cnt_s, if_pos hn] at this
  omega
/-- the roads that were read are roads -/
def VRm (μ : Mem) : Prop := (0 ≤ μ 256 0 ∧ μ 256 0 ≤ 9) ∧ (0 ≤ μ 256 1 ∧ μ 256 1 ≤ 14) ∧
  (∀ r : Nat, (r : Int) < μ 256 1 → (0 ≤ μ 259 r ∧ μ 259 r < μ 256 0) ∧ (0 ≤ μ 260 r ∧ μ 260 r < μ 256 0) ∧ ¬ μ 259 r = μ 260 r ∧ (1 ≤ μ 261 r ∧ μ 261 r ≤ 99)) ∧
  ∀ p : Int, cnt (μ 259) (μ 260) p (μ 256 1).toNat ≤ 5
/-- sides and their roads, as the first n roads make them -/
def SdOK (f g : Row) (n : Nat) (S Q : Row) : Prop := (∀ p : Nat, p < 9 → S p = cnt f g p n) ∧ ∀ r p : Nat, r < n → p < 9 → (f r = p ∨ g r = p) → Q (p * 5 + (cnt f g p r).toNat) = r
def FF (μ ν : Mem) : Prop := ∀ c, (c < 266 ∨ 269 < c) → ν c = μ c
theorem FF.rf (μ : Mem) : FF μ μ := fun _ _ => rfl
theorem FF.mu1 {μ ν : Mem} (h : FF μ ν) {c j : Nat} {v : Int} (hc : 266 ≤ c ∧ c ≤ 269) : FF μ (mu ν c j v) := fun d hd => (mu_ne (by omega)).trans (h d hd)
theorem mu_row {μ : Mem} {k j : Nat} {v : Int} : mu μ k j v k = up (μ k) j v := by
  funext b; simp [mu, up]
def fil1 : Nat → Int → Row → Row
  | 0, _, T => T
  | n + 1, k, T => fil1 n (k + 1) (up T k.toNat (-1))
theorem fil1_s {n : Nat} {k : Int} {T : Row} : fil1 (n + 1) k T = fil1 n (k + 1) (up T k.toNat (-1)) := rfl
theorem fil1_get : ∀ (n : Nat) (k : Int) (T : Row) (x : Nat), 0 ≤ k → fil1 n k T x = if k ≤ x ∧ (x : Int) < k + n then -1 else T x := by
  intro n
  induction n with
  | zero => intro k T x _; rw [if_neg (by omega)]; rfl
  | succ n ih =>
    intro k T x hk
    rw [fil1_s, ih (k + 1) _ x (by omega)]
    unfold up
    by_cases h : x = k.toNat
    · rw [if_neg (by omega), if_pos h, if_pos (by omega)]
    · by_cases h2 : k ≤ x ∧ (x : Int) < k + ((n + 1 : Nat) : Int)
      · rw [if_pos (by omega), if_pos h2]
      · rw [if_neg (by omega), if_neg h, if_neg h2]
def edM (f g l : Row) : Nat → Nat → Row → Row
  | 0, _, D => D
  | n + 1, r, D => edM f g l n (r + 1) (up (up D (9 * f r + g r).toNat (l r)) (9 * g r + f r).toNat (l r))
theorem edM_s {f g l : Row} {n r : Nat} {D : Row} : edM f g l (n + 1) r D = edM f g l n (r + 1) (up (up D (9 * f r + g r).toNat (l r)) (9 * g r + f r).toNat (l r)) := rfl
def mfI (k : Int) : Nat → Int → Row → Row
  | 0, _, D => D
  | n + 1, i, D => mfI k n (i + 1) (up D i.toNat (if D (9 * (i / 9) + k).toNat + D (9 * k + i % 9).toNat < D i.toNat then D (9 * (i / 9) + k).toNat + D (9 * k + i % 9).toNat else D i.toNat))
theorem mfI_s {k : Int} {n : Nat} {i : Int} {D : Row} : mfI k (n + 1) i D = mfI k n (i + 1) (up D i.toNat (if D (9 * (i / 9) + k).toNat + D (9 * k + i % 9).toNat < D i.toNat then D (9 * (i / 9) + k).toNat + D (9 * k + i % 9).toNat else D i.toNat)) := rfl
def mfO : Nat → Int → Row → Row
  | 0, _, D => D
  | n + 1, k, D => mfO n (k + 1) (mfI k 81 0 D)
theorem mfO_s {n : Nat} {k : Int} {D : Row} : mfO (n + 1) k D = mfO n (k + 1) (mfI k 81 0 D) := rfl
theorem mfI_db {k : Int} (hk : 0 ≤ k ∧ k < 9) : ∀ (n : Nat) (i : Int) (D : Row), 0 ≤ i → i + n ≤ 81 → DB D → DB (mfI k n i D) := by
  intro n
  induction n with
  | zero => intro i D _ _ h; exact h
  | succ n ih =>
    intro i D h0 h1 h
    rw [mfI_s]
    refine ih _ _ (by omega) (by omega) (DB_up h ?_)
    have a1 := h.2 (9 * (i / 9) + k).toNat (by omega)
    have a2 := h.2 (9 * k + i % 9).toNat (by omega)
    have a3 := h.2 i.toNat (by omega)
    split <;> omega
theorem edM_db {f g l : Row} : ∀ (n r : Nat) (D : Row), (∀ x, r ≤ x → x < r + n → 0 ≤ l x ∧ l x ≤ 99) → DB D → DB (edM f g l n r D) := by
  intro n
  induction n with
  | zero => intro r D _ h; exact h
  | succ n ih =>
    intro r D hl h
    rw [edM_s]
    have := hl r (by omega) (by omega)
    exact ih _ _ (fun x h1 h2 => hl x (by omega) (by omega)) (DB_up (DB_up h (by omega)) (by omega))
/-- the least of the first n sides of p that leads to t, else v -/
abbrev ldsM (f g l D Q : Row) (p t i : Int) : Prop := D (9 * p + t).toNat < 1000000 ∧ l (Q (5 * p + i).toNat).toNat + D (9 * (if f (Q (5 * p + i).toNat).toNat = p then g (Q (5 * p + i).toNat).toNat else f (Q (5 * p + i).toNat).toNat) + t).toNat = D (9 * p + t).toNat
def mAr (f g l D Q : Row) (p t : Int) : Nat → Int → Int
  | 0, v => v
  | n + 1, v => mAr f g l D Q p t n (if ldsM f g l D Q p t n then (n : Int) else v)
theorem mAr_s {f g l D Q : Row} {p t : Int} {n : Nat} {v : Int} : mAr f g l D Q p t (n + 1) v = mAr f g l D Q p t n (if ldsM f g l D Q p t n then (n : Int) else v) := rfl
theorem mAr_rg {f g l D Q : Row} {p t : Int} : ∀ (n : Nat) (v : Int), (-1 ≤ v ∧ v ≤ 4) → n ≤ 5 → -1 ≤ mAr f g l D Q p t n v ∧ mAr f g l D Q p t n v ≤ 4 := by
  intro n
  induction n with
  | zero => intro v h _; exact h
  | succ n ih =>
    intro v h hn
    rw [mAr_s]
    refine ih _ ?_ (by omega)
    split <;> omega
def AR (f g l D Q S : Row) (p t : Nat) : Int := if t = p then -1 else mAr f g l D Q p t (S p).toNat (-1)

theorem SdOK_step {f g S Q : Row} {k : Nat} {a b : Int} (h : SdOK f g k S Q) (ha : f k = a) (hb : g k = b) (va : 0 ≤ a ∧ a < 9) (vb : 0 ≤ b ∧ b < 9) (vn : ¬ a = b) (c5 : ∀ p, cnt f g p (k + 1) ≤ 5) : SdOK f g (k + 1) (up (up S a.toNat (S a.toNat + 1)) b.toNat (S b.toNat + 1)) (up (up Q (5 * a + S a.toNat).toNat k) (5 * b + S b.toNat).toNat k) := by
  obtain ⟨h1, h2⟩ := h
  have sa := h1 a.toNat (by omega)
  have sb := h1 b.toNat (by omega)
  rw [show ((a.toNat : Nat) : Int) = a by omega] at sa
  rw [show ((b.toNat : Nat) : Int) = b by omega] at sb
  have na := (cnt_mono (f := f) (g := g) (p := a) k k (Nat.le_refl _)).1
  have nb := (cnt_mono (f := f) (g := g) (p := b) k k (Nat.le_refl _)).1
  refine ⟨fun p hp => ?_, fun r p hr hp hat => ?_⟩
  · rw [cnt_s, ha, hb, ← h1 p hp]
    unfold up
    by_cases e1 : p = b.toNat
    · rw [if_pos e1, if_pos (by omega), e1]
    · rw [if_neg e1]
      by_cases e2 : p = a.toNat
      · rw [if_pos e2, if_pos (by omega), e2]
      · rw [if_neg e2, if_neg (by omega)]; omega
  · have ca := c5 a
    have cb := c5 b
    rw [cnt_s, if_pos (Or.inl ha)] at ca
    rw [cnt_s, if_pos (Or.inr hb)] at cb
    by_cases e : r = k
    · subst e
      unfold up
      by_cases e1 : (p : Int) = b
      · rw [e1, ← sb, if_pos (by omega)]
      · have e2 : (p : Int) = a := by rcases hat with q | q <;> omega
        rw [e2, ← sa]
        by_cases e3 : p * 5 + (S a.toNat).toNat = (5 * b + S b.toNat).toNat
        · rw [if_pos e3]
        · rw [if_neg e3, if_pos (by omega)]
    · have hr2 : r < k := by omega
      have l1 := cnt_lt (f := f) (g := g) (p := p) hr2 hat
      have l2 := (cnt_mono (f := f) (g := g) (p := p) r r (Nat.le_refl _)).1
      have l3 := c5 p
      have l4 := (cnt_mono (f := f) (g := g) (p := p) (k + 1) k (by omega)).2
      have := h2 r p hr2 hp hat
      unfold up
      rw [if_neg ?_, if_neg ?_]
      · exact this
      · intro q
        by_cases e2 : (p : Int) = a
        · rw [e2] at q l1 l2; omega
        · omega
      · intro q
        by_cases e2 : (p : Int) = b
        · rw [e2] at q l1 l2; omega
        · omega

theorem cnt_ex {f g : Row} {p : Int} : ∀ (n : Nat) (i : Int), 0 ≤ i → i < cnt f g p n → ∃ r, r < n ∧ (f r = p ∨ g r = p) ∧ cnt f g p r = i := by
  intro n
  induction n with
  | zero => intro i h1 h2; simp only [cnt] at h2; omega
  | succ n ih =>
    intro i h1 h2
    rw [cnt_s] at h2
    by_cases e : i < cnt f g p n
    · obtain ⟨r, a1, a2, a3⟩ := ih i h1 e
      exact ⟨r, by omega, a2, a3⟩
    · split at h2
      · rename_i hc
        exact ⟨n, by omega, hc, by omega⟩
      · omega
theorem sideRoad_ex {f g S Q : Row} {n : Nat} (h : SdOK f g n S Q) {p i : Int} (hp : 0 ≤ p ∧ p < 9) (hi : 0 ≤ i ∧ i < S p.toNat) : ∃ r, r < n ∧ (f r = p ∨ g r = p) ∧ Q (5 * p + i).toNat = r := by
  obtain ⟨h1, h2⟩ := h
  have s1 := h1 p.toNat (by omega)
  have ep : ((p.toNat : Nat) : Int) = p := by omega
  rw [ep] at s1
  obtain ⟨r, a1, a2, a3⟩ := cnt_ex (f := f) (g := g) (p := p) n i hi.1 (by omega)
  have := h2 r p.toNat a1 (by omega) (by rw [ep]; exact a2)
  rw [ep, a3, show p.toNat * 5 + i.toNat = (5 * p + i).toNat by omega] at this
  exact ⟨r, a1, a2, this⟩

set_option maxRecDepth 20000 in
theorem r_otherRaw {μ : Mem} {r p : Int} (hr : 0 ≤ r ∧ r < 14) (hp : inR p) (h1 : inR (μ 259 r.toNat)) (h2 : inR (μ 260 r.toNat)) (he : μ 259 r.toNat = p ∨ μ 260 r.toNat = p) : SP mX12_otherEnd [vr 256, vi r, vi p] μ (fun w m => w = vi (if μ 259 r.toNat = p then μ 260 r.toNat else μ 259 r.toNat) ∧ m = μ) := by
  refine SP_intro (ls := [vr 256, vi r, vi p]) (by decide +kernel) rfl rfl (Nat.le_of_ble_eq_true rfl) rfl (fun X hX => ?_)
  refine V_aloadn (pc := 0) dX12_otherEnd_0 rfl ?_
  refine V_getr (pc := 1) dX12_otherEnd_1 fX12_7 zk_256 zr_256_2 ?_
  refine V_iloadn (pc := 4) dX12_otherEnd_4 rfl ?_
  refine V_iald (pc := 5) dX12_otherEnd_5 zk_259 (by omega) (by omega) (by decide) ?_
  refine V_iloadn (pc := 6) dX12_otherEnd_6 rfl ?_
  refine V_icmp_ne (pc := 7) (tgt := 19) dX12_otherEnd_7 (by decide) (by omega) (by omega) (fun h7 => ?_) (fun h7 => ?_)
  · refine V_aloadn (pc := 19) dX12_otherEnd_19 rfl ?_
    refine V_getr (pc := 20) dX12_otherEnd_20 fX12_13 zk_256 zr_256_3 ?_
    refine V_iloadn (pc := 23) dX12_otherEnd_23 rfl ?_
    refine V_iald (pc := 24) dX12_otherEnd_24 zk_260 (by omega) (by omega) (by decide) ?_
    refine V_iloadn (pc := 25) dX12_otherEnd_25 rfl ?_
    refine V_icmp_ne (pc := 26) (tgt := 38) dX12_otherEnd_26 (by decide) (by omega) (by omega) (fun h26 => ?_) (fun h26 => ?_)
    · refine V_iconst (pc := 38) dX12_otherEnd_38 ?_
      refine V_iret hX dX12_otherEnd_39 rfl ?_
      exact ⟨congrArg vi (by split <;> omega), rfl⟩
    · refine V_aloadn (pc := 29) dX12_otherEnd_29 rfl ?_
      refine V_getr (pc := 30) dX12_otherEnd_30 fX12_7 zk_256 zr_256_2 ?_
      refine V_iloadn (pc := 33) dX12_otherEnd_33 rfl ?_
      refine V_iald (pc := 34) dX12_otherEnd_34 zk_259 (by omega) (by omega) (by decide) ?_
      refine V_goto (pc := 35) (tgt := 39) dX12_otherEnd_35 (by decide) ?_
      refine V_iret hX dX12_otherEnd_39 rfl ?_
      exact ⟨congrArg vi (by split <;> omega), rfl⟩
  · refine V_aloadn (pc := 10) dX12_otherEnd_10 rfl ?_
    refine V_getr (pc := 11) dX12_otherEnd_11 fX12_13 zk_256 zr_256_3 ?_
    refine V_iloadn (pc := 14) dX12_otherEnd_14 rfl ?_
    refine V_iald (pc := 15) dX12_otherEnd_15 zk_260 (by omega) (by omega) (by decide) ?_
    refine V_goto (pc := 16) (tgt := 39) dX12_otherEnd_16 (by decide) ?_
    refine V_iret hX dX12_otherEnd_39 rfl ?_
    exact ⟨congrArg vi (by split <;> omega), rfl⟩

section
variable {X : ZX} {μ : Mem}
set_option maxRecDepth 20000 in
theorem l_flA (hex : ∀ k (y2 y3 y4 y5 : AV) (ν : Mem), FF μ ν → ν 268 = fillR 81 0 (μ 268) → ν 269 = fil1 81 0 (μ 269) → ν 266 = μ 266 → ν 267 = μ 267 → V X mX12_findLand 44 [vr 256, vi k, y2, y3, y4, y5] [] ν) : ∀ (n : Nat) (k : Int) (y2 y3 y4 y5 : AV) (ν : Mem), (k + n = 81) → (0 ≤ k) → (FF μ ν) → (fillR n k (ν 268) = fillR 81 0 (μ 268)) → (fil1 n k (ν 269) = fil1 81 0 (μ 269)) → (ν 266 = μ 266) → (ν 267 = μ 267) → V X mX12_findLand 2 [vr 256, vi k, y2, y3, y4, y5] [] ν := by
  intro n
  induction n with
  | zero =>
    intro k y2 y3 y4 y5 ν h1 h0 hF hD hT h6 h7
    refine V_iloadn (pc := 2) dX12_findLand_2 rfl ?_
    refine V_bipush (pc := 3) dX12_findLand_3 (by decide +kernel) ?_
    refine V_icmp_ge (pc := 5) (tgt := 44) dX12_findLand_5 (by decide) (by omega) (by decide) (fun h5 => ?_) (fun h5 => ?_)
    · exact hex k y2 y3 y4 y5 ν hF hD hT h6 h7
    · exfalso; omega
  | succ n ih =>
    intro k y2 y3 y4 y5 ν h1 h0 hF hD hT h6 h7
    have e1 : k.tdiv 9 = k / 9 := Int.tdiv_eq_ediv_of_nonneg h0
    have e2 : k.tmod 9 = k % 9 := Int.tmod_eq_emod_of_nonneg h0
    refine V_iloadn (pc := 2) dX12_findLand_2 rfl ?_
    refine V_bipush (pc := 3) dX12_findLand_3 (by decide +kernel) ?_
    refine V_icmp_ge (pc := 5) (tgt := 44) dX12_findLand_5 (by decide) (by omega) (by decide) (fun h5 => ?_) (fun h5 => ?_)
    · exfalso; omega
    · refine V_aloadn (pc := 8) dX12_findLand_8 rfl ?_
      refine V_getr (pc := 9) dX12_findLand_9 fX12_34 zk_256 zr_256_11 ?_
      refine V_iloadn (pc := 12) dX12_findLand_12 rfl ?_
      refine V_iloadn (pc := 13) dX12_findLand_13 rfl ?_
      refine V_bipush (pc := 14) dX12_findLand_14 (by decide +kernel) ?_
      refine V_idiv (pc := 16) dX12_findLand_16 (by omega) (by decide) (by decide) (by omega) ?_
      refine V_iloadn (pc := 17) dX12_findLand_17 rfl ?_
      refine V_bipush (pc := 18) dX12_findLand_18 (by decide +kernel) ?_
      refine V_irem (pc := 20) dX12_findLand_20 (by omega) (by decide) (by decide) (by omega) ?_
      refine V_icmp_ne (pc := 21) (tgt := 28) dX12_findLand_21 (by decide) (by omega) (by omega) (fun h21 => ?_) (fun h21 => ?_)
      · refine V_ldc (pc := 28) (n := 1000000) dX12_findLand_28 nX12_236 (by decide) ?_
        refine V_iast (pc := 30) dX12_findLand_30 zk_268 (by omega) (by omega) (by decide) ?_
        refine V_aloadn (pc := 31) dX12_findLand_31 rfl ?_
        refine V_getr (pc := 32) dX12_findLand_32 fX12_37 zk_256 zr_256_12 ?_
        refine V_iloadn (pc := 35) dX12_findLand_35 rfl ?_
        refine V_iconst (pc := 36) dX12_findLand_36 ?_
        refine V_iast (pc := 37) dX12_findLand_37 zk_269 (by omega) (by omega) (by decide) ?_
        refine V_iinc_1 (pc := 38) dX12_findLand_38 (by decide) rfl ?_
        refine V_goto (pc := 41) (tgt := 2) dX12_findLand_41 (by decide) ?_
        refine ih (k + 1) _ _ _ _ _ (by omega) (by omega) ((hF.mu1 (by decide)).mu1 (by decide)) ?_ ?_ (by rw [mu_ne (by decide), mu_ne (by decide)]; exact h6) (by rw [mu_ne (by decide), mu_ne (by decide)]; exact h7)
        · rw [mu_ne (by decide), mu_row, ← hD, fillR_s]
          first | rw [if_pos (show k % 10 = 0 by omega)] | rw [if_neg (show ¬ k % 10 = 0 by omega)]
        · rw [mu_row, mu_ne (by decide), ← hT, fil1_s]
      · refine V_iconst (pc := 24) dX12_findLand_24 ?_
        refine V_goto (pc := 25) (tgt := 30) dX12_findLand_25 (by decide) ?_
        refine V_iast (pc := 30) dX12_findLand_30 zk_268 (by omega) (by omega) (by decide) ?_
        refine V_aloadn (pc := 31) dX12_findLand_31 rfl ?_
        refine V_getr (pc := 32) dX12_findLand_32 fX12_37 zk_256 zr_256_12 ?_
        refine V_iloadn (pc := 35) dX12_findLand_35 rfl ?_
        refine V_iconst (pc := 36) dX12_findLand_36 ?_
        refine V_iast (pc := 37) dX12_findLand_37 zk_269 (by omega) (by omega) (by decide) ?_
        refine V_iinc_1 (pc := 38) dX12_findLand_38 (by decide) rfl ?_
        refine V_goto (pc := 41) (tgt := 2) dX12_findLand_41 (by decide) ?_
        refine ih (k + 1) _ _ _ _ _ (by omega) (by omega) ((hF.mu1 (by decide)).mu1 (by decide)) ?_ ?_ (by rw [mu_ne (by decide), mu_ne (by decide)]; exact h6) (by rw [mu_ne (by decide), mu_ne (by decide)]; exact h7)
        · rw [mu_ne (by decide), mu_row, ← hD, fillR_s]
          first | rw [if_pos (show k % 10 = 0 by omega)] | rw [if_neg (show ¬ k % 10 = 0 by omega)]
        · rw [mu_row, mu_ne (by decide), ← hT, fil1_s]

set_option maxRecDepth 20000 in
theorem l_flB {D1 T1 Q1 : Row} (hex : ∀ k (y2 y3 y4 y5 : AV) (ν : Mem), FF μ ν → ν 268 = D1 → ν 269 = T1 → ν 266 = zr9 9 0 (μ 266) → ν 267 = Q1 → V X mX12_findLand 65 [vr 256, vi k, y2, y3, y4, y5] [] ν) : ∀ (n : Nat) (k : Int) (y2 y3 y4 y5 : AV) (ν : Mem), (k + n = 9) → (0 ≤ k) → (FF μ ν) → (ν 268 = D1) → (ν 269 = T1) → (zr9 n k.toNat (ν 266) = zr9 9 0 (μ 266)) → (ν 267 = Q1) → V X mX12_findLand 46 [vr 256, vi k, y2, y3, y4, y5] [] ν := by
  intro n
  induction n with
  | zero =>
    intro k y2 y3 y4 y5 ν h1 h0 hF hD hT h6 h7
    refine V_iloadn (pc := 46) dX12_findLand_46 rfl ?_
    refine V_bipush (pc := 47) dX12_findLand_47 (by decide +kernel) ?_
    refine V_icmp_ge (pc := 49) (tgt := 65) dX12_findLand_49 (by decide) (by omega) (by decide) (fun h49 => ?_) (fun h49 => ?_)
    · exact hex k y2 y3 y4 y5 ν hF hD hT h6 h7
    · exfalso; omega
  | succ n ih =>
    intro k y2 y3 y4 y5 ν h1 h0 hF hD hT h6 h7
    refine V_iloadn (pc := 46) dX12_findLand_46 rfl ?_
    refine V_bipush (pc := 47) dX12_findLand_47 (by decide +kernel) ?_
    refine V_icmp_ge (pc := 49) (tgt := 65) dX12_findLand_49 (by decide) (by omega) (by decide) (fun h49 => ?_) (fun h49 => ?_)
    · exfalso; omega
    · refine V_aloadn (pc := 52) dX12_findLand_52 rfl ?_
      refine V_getr (pc := 53) dX12_findLand_53 fX12_28 zk_256 zr_256_9 ?_
      refine V_iloadn (pc := 56) dX12_findLand_56 rfl ?_
      refine V_iconst (pc := 57) dX12_findLand_57 ?_
      refine V_iast (pc := 58) dX12_findLand_58 zk_266 (by omega) (by omega) (by decide) ?_
      refine V_iinc_1 (pc := 59) dX12_findLand_59 (by decide) rfl ?_
      refine V_goto (pc := 62) (tgt := 46) dX12_findLand_62 (by decide) ?_
      exact ih (k + 1) _ _ _ _ _ (by omega) (by omega) (hF.mu1 (by decide)) (by rw [mu_ne (by decide)]; exact hD) (by rw [mu_ne (by decide)]; exact hT) (by rw [mu_row, ← h6, zr9_s, show (k + 1).toNat = k.toNat + 1 by omega]) (by rw [mu_ne (by decide)]; exact h7)

set_option maxRecDepth 20000 in
theorem l_flC (hV : VRm μ) {D1 T1 : Row} (hex : ∀ k (y2 y3 y4 y5 : AV) (ν : Mem), FF μ ν → ν 268 = D1 → ν 269 = T1 → SdOK (μ 259) (μ 260) (μ 256 1).toNat (ν 266) (ν 267) → (∀ p : Nat, 9 ≤ p → ν 266 p = μ 266 p) → V X mX12_findLand 181 [vr 256, vi k, y2, y3, y4, y5] [] ν) : ∀ (n : Nat) (k : Int) (y2 y3 y4 y5 : AV) (ν : Mem), (k + n = μ 256 1) → (0 ≤ k) → (FF μ ν) → (edM (μ 259) (μ 260) (μ 261) n k.toNat (ν 268) = D1) → (ν 269 = T1) → (SdOK (μ 259) (μ 260) k.toNat (ν 266) (ν 267)) → (∀ p : Nat, 9 ≤ p → ν 266 p = μ 266 p) → V X mX12_findLand 67 [vr 256, vi k, y2, y3, y4, y5] [] ν := by
  intro n
  induction n with
  | zero =>
    intro k y2 y3 y4 y5 ν h1 h0 hF hD hT hS hS9
    obtain ⟨v1, v2, v3, v4⟩ := id hV
    have e256 := hF 256 (by decide)
    refine V_iloadn (pc := 67) dX12_findLand_67 rfl ?_
    refine V_aloadn (pc := 68) dX12_findLand_68 rfl ?_
    refine V_geti (r := 0) (pc := 69) dX12_findLand_69 fX12_218 zk_256 ?_
    rw [e256]
    refine V_icmp_ge (pc := 72) (tgt := 181) dX12_findLand_72 (by decide) (by omega) (by omega) (fun h72 => ?_) (fun h72 => ?_)
    · have e : k.toNat = (μ 256 1).toNat := by omega
      rw [e] at hS
      exact hex k y2 y3 y4 y5 ν hF hD hT hS hS9
    · exfalso; omega
  | succ n ih =>
    intro k y2 y3 y4 y5 ν h1 h0 hF hD hT hS hS9
    obtain ⟨v1, v2, v3, v4⟩ := id hV
    have e256 := hF 256 (by decide)
    have e259 := hF 259 (by decide)
    have e260 := hF 260 (by decide)
    have e261 := hF 261 (by decide)
    obtain ⟨va, vb, vn, vl⟩ := v3 k.toNat (by omega)
    generalize ha : μ 259 k.toNat = a at va vn
    generalize hb : μ 260 k.toNat = b at vb vn
    have s1 := hS.1 a.toNat (by omega)
    have s2 := hS.1 b.toNat (by omega)
    rw [show ((a.toNat : Nat) : Int) = a by omega] at s1
    rw [show ((b.toNat : Nat) : Int) = b by omega] at s2
    have c1 := v4 a
    have c2 := v4 b
    have d1 := cnt_lt (f := μ 259) (g := μ 260) (p := a) (n := k.toNat) (m := (μ 256 1).toNat) (by omega) (Or.inl ha)
    have d2 := cnt_lt (f := μ 259) (g := μ 260) (p := b) (n := k.toNat) (m := (μ 256 1).toNat) (by omega) (Or.inr hb)
    have b1 := (cnt_mono (f := μ 259) (g := μ 260) (p := a) (μ 256 1).toNat k.toNat (by omega)).1
    have b2 := (cnt_mono (f := μ 259) (g := μ 260) (p := b) (μ 256 1).toNat k.toNat (by omega)).1
    refine V_iloadn (pc := 67) dX12_findLand_67 rfl ?_
    refine V_aloadn (pc := 68) dX12_findLand_68 rfl ?_
    refine V_geti (r := 0) (pc := 69) dX12_findLand_69 fX12_218 zk_256 ?_
    rw [e256]
    refine V_icmp_ge (pc := 72) (tgt := 181) dX12_findLand_72 (by decide) (by omega) (by omega) (fun h72 => ?_) (fun h72 => ?_)
    · exfalso; omega
    · refine V_aloadn (pc := 75) dX12_findLand_75 rfl ?_
      refine V_getr (pc := 76) dX12_findLand_76 fX12_7 zk_256 zr_256_2 ?_
      refine V_iloadn (pc := 79) dX12_findLand_79 rfl ?_
      refine V_iald (pc := 80) dX12_findLand_80 zk_259 (by omega) (by omega) (by decide) ?_
      rw [e259, ha]
      refine V_istore_2 (pc := 81) dX12_findLand_81 (by decide) rfl ?_
      refine V_aloadn (pc := 82) dX12_findLand_82 rfl ?_
      refine V_getr (pc := 83) dX12_findLand_83 fX12_13 zk_256 zr_256_3 ?_
      refine V_iloadn (pc := 86) dX12_findLand_86 rfl ?_
      refine V_iald (pc := 87) dX12_findLand_87 zk_260 (by omega) (by omega) (by decide) ?_
      rw [e260, hb]
      refine V_istore_3 (pc := 88) dX12_findLand_88 (by decide) rfl ?_
      refine V_aloadn (pc := 89) dX12_findLand_89 rfl ?_
      refine V_getr (pc := 90) dX12_findLand_90 fX12_34 zk_256 zr_256_11 ?_
      refine V_bipush (pc := 93) dX12_findLand_93 (by decide +kernel) ?_
      refine V_iloadn (pc := 95) dX12_findLand_95 rfl ?_
      refine V_imul (pc := 96) dX12_findLand_96 ?_
      refine V_iloadn (pc := 97) dX12_findLand_97 rfl ?_
      refine V_iadd (pc := 98) dX12_findLand_98 ?_
      refine V_aloadn (pc := 99) dX12_findLand_99 rfl ?_
      refine V_getr (pc := 100) dX12_findLand_100 fX12_16 zk_256 zr_256_4 ?_
      refine V_iloadn (pc := 103) dX12_findLand_103 rfl ?_
      refine V_iald (pc := 104) dX12_findLand_104 zk_261 (by omega) (by omega) (by decide) ?_
      rw [e261]
      refine V_iast (pc := 105) dX12_findLand_105 zk_268 (by omega) (by omega) (by decide) ?_
      refine V_aloadn (pc := 106) dX12_findLand_106 rfl ?_
      refine V_getr (pc := 107) dX12_findLand_107 fX12_34 zk_256 zr_256_11 ?_
      refine V_bipush (pc := 110) dX12_findLand_110 (by decide +kernel) ?_
      refine V_iloadn (pc := 112) dX12_findLand_112 rfl ?_
      refine V_imul (pc := 113) dX12_findLand_113 ?_
      refine V_iloadn (pc := 114) dX12_findLand_114 rfl ?_
      refine V_iadd (pc := 115) dX12_findLand_115 ?_
      refine V_aloadn (pc := 116) dX12_findLand_116 rfl ?_
      refine V_getr (pc := 117) dX12_findLand_117 fX12_16 zk_256 zr_256_4 ?_
      refine V_iloadn (pc := 120) dX12_findLand_120 rfl ?_
      refine V_iald (pc := 121) dX12_findLand_121 zk_261 (by omega) (by omega) (by decide) ?_
      rw [mu_c (by decide : (261 : Nat) ≠ 268)]
      rw [e261]
      refine V_iast (pc := 122) dX12_findLand_122 zk_268 (by omega) (by omega) (by decide) ?_
      refine V_aloadn (pc := 123) dX12_findLand_123 rfl ?_
      refine V_getr (pc := 124) dX12_findLand_124 fX12_31 zk_256 zr_256_10 ?_
      refine V_iconst (pc := 127) dX12_findLand_127 ?_
      refine V_iloadn (pc := 128) dX12_findLand_128 rfl ?_
      refine V_imul (pc := 129) dX12_findLand_129 ?_
      refine V_aloadn (pc := 130) dX12_findLand_130 rfl ?_
      refine V_getr (pc := 131) dX12_findLand_131 fX12_28 zk_256 zr_256_9 ?_
      refine V_iloadn (pc := 134) dX12_findLand_134 rfl ?_
      refine V_iald (pc := 135) dX12_findLand_135 zk_266 (by omega) (by omega) (by decide) ?_
      rw [mu_c (by decide : (266 : Nat) ≠ 268)]
      rw [mu_c (by decide : (266 : Nat) ≠ 268)]
      refine V_iadd (pc := 136) dX12_findLand_136 ?_
      refine V_iloadn (pc := 137) dX12_findLand_137 rfl ?_
      refine V_iast (pc := 138) dX12_findLand_138 zk_267 (by omega) (by omega) (by decide) ?_
      refine V_aloadn (pc := 139) dX12_findLand_139 rfl ?_
      refine V_getr (pc := 140) dX12_findLand_140 fX12_28 zk_256 zr_256_9 ?_
      refine V_iloadn (pc := 143) dX12_findLand_143 rfl ?_
      refine V_dup2_ir (pc := 144) dX12_findLand_144 ?_
      refine V_iald (pc := 145) dX12_findLand_145 zk_266 (by omega) (by omega) (by decide) ?_
      rw [mu_c (by decide : (266 : Nat) ≠ 267)]
      rw [mu_c (by decide : (266 : Nat) ≠ 268)]
      rw [mu_c (by decide : (266 : Nat) ≠ 268)]
      refine V_iconst (pc := 146) dX12_findLand_146 ?_
      refine V_iadd (pc := 147) dX12_findLand_147 ?_
      refine V_iast (pc := 148) dX12_findLand_148 zk_266 (by omega) (by omega) (by decide) ?_
      refine V_aloadn (pc := 149) dX12_findLand_149 rfl ?_
      refine V_getr (pc := 150) dX12_findLand_150 fX12_31 zk_256 zr_256_10 ?_
      refine V_iconst (pc := 153) dX12_findLand_153 ?_
      refine V_iloadn (pc := 154) dX12_findLand_154 rfl ?_
      refine V_imul (pc := 155) dX12_findLand_155 ?_
      refine V_aloadn (pc := 156) dX12_findLand_156 rfl ?_
      refine V_getr (pc := 157) dX12_findLand_157 fX12_28 zk_256 zr_256_9 ?_
      refine V_iloadn (pc := 160) dX12_findLand_160 rfl ?_
      refine V_iald (pc := 161) dX12_findLand_161 zk_266 (by omega) (by omega) (by decide) ?_
      rw [mu_j (by omega : b.toNat ≠ a.toNat), mu_c (by decide), mu_c (by decide), mu_c (by decide)]
      refine V_iadd (pc := 162) dX12_findLand_162 ?_
      refine V_iloadn (pc := 163) dX12_findLand_163 rfl ?_
      refine V_iast (pc := 164) dX12_findLand_164 zk_267 (by omega) (by omega) (by decide) ?_
      refine V_aloadn (pc := 165) dX12_findLand_165 rfl ?_
      refine V_getr (pc := 166) dX12_findLand_166 fX12_28 zk_256 zr_256_9 ?_
      refine V_iloadn (pc := 169) dX12_findLand_169 rfl ?_
      refine V_dup2_ir (pc := 170) dX12_findLand_170 ?_
      refine V_iald (pc := 171) dX12_findLand_171 zk_266 (by omega) (by omega) (by decide) ?_
      rw [mu_c (by decide : (266 : Nat) ≠ 267)]
      rw [mu_j (by omega : b.toNat ≠ a.toNat), mu_c (by decide), mu_c (by decide), mu_c (by decide)]
      refine V_iconst (pc := 172) dX12_findLand_172 ?_
      refine V_iadd (pc := 173) dX12_findLand_173 ?_
      refine V_iast (pc := 174) dX12_findLand_174 zk_266 (by omega) (by omega) (by decide) ?_
      refine V_iinc_1 (pc := 175) dX12_findLand_175 (by decide) rfl ?_
      refine V_goto (pc := 178) (tgt := 67) dX12_findLand_178 (by decide) ?_
      refine ih (k + 1) _ _ _ _ _ (by omega) (by omega) ((((((hF.mu1 (by decide)).mu1 (by decide)).mu1 (by decide)).mu1 (by decide)).mu1 (by decide)).mu1 (by decide)) ?_ ?_ ?_ ?_
      · rw [mu_ne (by decide), mu_ne (by decide), mu_ne (by decide), mu_ne (by decide), mu_row, mu_row, ← hD, edM_s, ha, hb, show (k + 1).toNat = k.toNat + 1 by omega]
      · rw [mu_ne (by decide), mu_ne (by decide), mu_ne (by decide), mu_ne (by decide), mu_ne (by decide), mu_ne (by decide)]; exact hT
      · have e := SdOK_step hS ha hb (by omega) (by omega) vn (fun p => Int.le_trans (cnt_mono (f := μ 259) (g := μ 260) (p := p) (μ 256 1).toNat (k.toNat + 1) (by omega)).2 (v4 p))
        rw [mu_row, mu_ne (by decide), mu_row, mu_ne (by decide), mu_ne (by decide), mu_ne (by decide), mu_ne (by decide), mu_row, mu_ne (by decide), mu_row, mu_ne (by decide), mu_ne (by decide), show (k + 1).toNat = k.toNat + 1 by omega]
        rw [show ((k.toNat : Nat) : Int) = k by omega] at e
        exact e
      · intro p hp
        rw [mu_j (by omega), mu_c (by decide), mu_j (by omega), mu_c (by decide), mu_c (by decide), mu_c (by decide)]
        exact hS9 p hp

set_option maxRecDepth 20000 in
theorem l_flD {D1 : Row} {T1 S1 Q1 : Row} {k : Int} (hk : 0 ≤ k ∧ k < 9) (hex : ∀ i (y3 y4 y5 : AV) (ν : Mem), FF μ ν → ν 268 = D1 → DB (ν 268) → ν 269 = T1 → ν 266 = S1 → ν 267 = Q1 → V X mX12_findLand 261 [vr 256, vi k, vi i, y3, y4, y5] [] ν) : ∀ (n : Nat) (i : Int) (y3 y4 y5 : AV) (ν : Mem), (i + n = 81) → (0 ≤ i) → (FF μ ν) → (mfI k n i (ν 268) = D1) → (DB (ν 268)) → (ν 269 = T1) → (ν 266 = S1) → (ν 267 = Q1) → V X mX12_findLand 193 [vr 256, vi k, vi i, y3, y4, y5] [] ν := by
  intro n
  induction n with
  | zero =>
    intro i y3 y4 y5 ν h1 h0 hF hD hB hT h6 h7
    refine V_iloadn (pc := 193) dX12_findLand_193 rfl ?_
    refine V_bipush (pc := 194) dX12_findLand_194 (by decide +kernel) ?_
    refine V_icmp_ge (pc := 196) (tgt := 261) dX12_findLand_196 (by decide) (by omega) (by decide) (fun h196 => ?_) (fun h196 => ?_)
    · exact hex i y3 y4 y5 ν hF hD hB hT h6 h7
    · exfalso; omega
  | succ n ih =>
    intro i y3 y4 y5 ν h1 h0 hF hD hB hT h6 h7
    have e1 : i.tdiv 9 = i / 9 := Int.tdiv_eq_ediv_of_nonneg h0
    have e2 : i.tmod 9 = i % 9 := Int.tmod_eq_emod_of_nonneg h0
    have a1 := hB.2 (9 * (i / 9) + k).toNat (by omega)
    have a2 := hB.2 (9 * k + i % 9).toNat (by omega)
    have a3 := hB.2 i.toNat (by omega)
    refine V_iloadn (pc := 193) dX12_findLand_193 rfl ?_
    refine V_bipush (pc := 194) dX12_findLand_194 (by decide +kernel) ?_
    refine V_icmp_ge (pc := 196) (tgt := 261) dX12_findLand_196 (by decide) (by omega) (by decide) (fun h196 => ?_) (fun h196 => ?_)
    · exfalso; omega
    · refine V_aloadn (pc := 199) dX12_findLand_199 rfl ?_
      refine V_getr (pc := 200) dX12_findLand_200 fX12_34 zk_256 zr_256_11 ?_
      refine V_bipush (pc := 203) dX12_findLand_203 (by decide +kernel) ?_
      refine V_iloadn (pc := 205) dX12_findLand_205 rfl ?_
      refine V_bipush (pc := 206) dX12_findLand_206 (by decide +kernel) ?_
      refine V_idiv (pc := 208) dX12_findLand_208 (by omega) (by decide) (by decide) (by omega) ?_
      rw [e1]
      refine V_imul (pc := 209) dX12_findLand_209 ?_
      refine V_iloadn (pc := 210) dX12_findLand_210 rfl ?_
      refine V_iadd (pc := 211) dX12_findLand_211 ?_
      refine V_iald (pc := 212) dX12_findLand_212 zk_268 (by omega) (by omega) (by decide) ?_
      refine V_aloadn (pc := 213) dX12_findLand_213 rfl ?_
      refine V_getr (pc := 214) dX12_findLand_214 fX12_34 zk_256 zr_256_11 ?_
      refine V_bipush (pc := 217) dX12_findLand_217 (by decide +kernel) ?_
      refine V_iloadn (pc := 219) dX12_findLand_219 rfl ?_
      refine V_imul (pc := 220) dX12_findLand_220 ?_
      refine V_iloadn (pc := 221) dX12_findLand_221 rfl ?_
      refine V_bipush (pc := 222) dX12_findLand_222 (by decide +kernel) ?_
      refine V_irem (pc := 224) dX12_findLand_224 (by omega) (by decide) (by decide) (by omega) ?_
      rw [e2]
      refine V_iadd (pc := 225) dX12_findLand_225 ?_
      refine V_iald (pc := 226) dX12_findLand_226 zk_268 (by omega) (by omega) (by decide) ?_
      refine V_iadd (pc := 227) dX12_findLand_227 ?_
      refine V_istore_3 (pc := 228) dX12_findLand_228 (by decide) rfl ?_
      refine V_aloadn (pc := 229) dX12_findLand_229 rfl ?_
      refine V_getr (pc := 230) dX12_findLand_230 fX12_34 zk_256 zr_256_11 ?_
      refine V_iloadn (pc := 233) dX12_findLand_233 rfl ?_
      refine V_iloadn (pc := 234) dX12_findLand_234 rfl ?_
      refine V_aloadn (pc := 235) dX12_findLand_235 rfl ?_
      refine V_getr (pc := 236) dX12_findLand_236 fX12_34 zk_256 zr_256_11 ?_
      refine V_iloadn (pc := 239) dX12_findLand_239 rfl ?_
      refine V_iald (pc := 240) dX12_findLand_240 zk_268 (by omega) (by omega) (by decide) ?_
      refine V_icmp_ge (pc := 241) (tgt := 248) dX12_findLand_241 (by decide) (by omega) (by omega) (fun h241 => ?_) (fun h241 => ?_)
      · refine V_aloadn (pc := 248) dX12_findLand_248 rfl ?_
        refine V_getr (pc := 249) dX12_findLand_249 fX12_34 zk_256 zr_256_11 ?_
        refine V_iloadn (pc := 252) dX12_findLand_252 rfl ?_
        refine V_iald (pc := 253) dX12_findLand_253 zk_268 (by omega) (by omega) (by decide) ?_
        refine V_iast (pc := 254) dX12_findLand_254 zk_268 (by omega) (by omega) (by decide) ?_
        refine V_iinc_2 (pc := 255) dX12_findLand_255 (by decide) rfl ?_
        refine V_goto (pc := 258) (tgt := 193) dX12_findLand_258 (by decide) ?_
        refine ih (i + 1) _ _ _ _ (by omega) (by omega) (hF.mu1 (by decide)) ?_ ?_ (by rw [mu_ne (by decide)]; exact hT) (by rw [mu_ne (by decide)]; exact h6) (by rw [mu_ne (by decide)]; exact h7)
        · rw [mu_row, ← hD, mfI_s]
          first | rw [if_pos (by omega)] | rw [if_neg (by omega)]
        · rw [mu_row]; exact DB_up hB (by omega)
      · refine V_iloadn (pc := 244) dX12_findLand_244 rfl ?_
        refine V_goto (pc := 245) (tgt := 254) dX12_findLand_245 (by decide) ?_
        refine V_iast (pc := 254) dX12_findLand_254 zk_268 (by omega) (by omega) (by decide) ?_
        refine V_iinc_2 (pc := 255) dX12_findLand_255 (by decide) rfl ?_
        refine V_goto (pc := 258) (tgt := 193) dX12_findLand_258 (by decide) ?_
        refine ih (i + 1) _ _ _ _ (by omega) (by omega) (hF.mu1 (by decide)) ?_ ?_ (by rw [mu_ne (by decide)]; exact hT) (by rw [mu_ne (by decide)]; exact h6) (by rw [mu_ne (by decide)]; exact h7)
        · rw [mu_row, ← hD, mfI_s]
          first | rw [if_pos (by omega)] | rw [if_neg (by omega)]
        · rw [mu_row]; exact DB_up hB (by omega)

set_option maxRecDepth 20000 in
theorem l_flK (hV : VRm μ) {D1 : Row} {T1 S1 Q1 : Row} (hex : ∀ k (y2 y3 y4 y5 : AV) (ν : Mem), FF μ ν → ν 268 = D1 → DB (ν 268) → ν 269 = T1 → ν 266 = S1 → ν 267 = Q1 → V X mX12_findLand 267 [vr 256, vi k, y2, y3, y4, y5] [] ν) : ∀ (n : Nat) (k : Int) (y2 y3 y4 y5 : AV) (ν : Mem), (k + n = μ 256 0) → (0 ≤ k) → (FF μ ν) → (mfO n k (ν 268) = D1) → (DB (ν 268)) → (ν 269 = T1) → (ν 266 = S1) → (ν 267 = Q1) → V X mX12_findLand 183 [vr 256, vi k, y2, y3, y4, y5] [] ν := by
  intro n
  induction n with
  | zero =>
    intro k y2 y3 y4 y5 ν h1 h0 hF hD hB hT h6 h7
    have v1 := hV.1
    have e256 := hF 256 (by decide)
    refine V_iloadn (pc := 183) dX12_findLand_183 rfl ?_
    refine V_aloadn (pc := 184) dX12_findLand_184 rfl ?_
    refine V_geti (r := 0) (pc := 185) dX12_findLand_185 fX12_118 zk_256 ?_
    rw [e256]
    refine V_icmp_ge (pc := 188) (tgt := 267) dX12_findLand_188 (by decide) (by omega) (by omega) (fun h188 => ?_) (fun h188 => ?_)
    · exact hex k y2 y3 y4 y5 ν hF hD hB hT h6 h7
    · exfalso; omega
  | succ n ih =>
    intro k y2 y3 y4 y5 ν h1 h0 hF hD hB hT h6 h7
    have v1 := hV.1
    have e256 := hF 256 (by decide)
    refine V_iloadn (pc := 183) dX12_findLand_183 rfl ?_
    refine V_aloadn (pc := 184) dX12_findLand_184 rfl ?_
    refine V_geti (r := 0) (pc := 185) dX12_findLand_185 fX12_118 zk_256 ?_
    rw [e256]
    refine V_icmp_ge (pc := 188) (tgt := 267) dX12_findLand_188 (by decide) (by omega) (by omega) (fun h188 => ?_) (fun h188 => ?_)
    · exfalso; omega
    · refine V_iconst (pc := 191) dX12_findLand_191 ?_
      refine V_istore_2 (pc := 192) dX12_findLand_192 (by decide) rfl ?_
      refine l_flD (μ := μ) (D1 := mfI k 81 0 (ν 268)) (T1 := T1) (S1 := S1) (Q1 := Q1) (k := k) (by omega) (fun i z3 z4 z5 ξ g1 g2 g3 g4 g5 g6 => ?_) 81 0 _ _ _ ν (by omega) (by omega) hF rfl hB hT h6 h7
      refine V_iinc_1 (pc := 261) dX12_findLand_261 (by decide) rfl ?_
      refine V_goto (pc := 264) (tgt := 183) dX12_findLand_264 (by decide) ?_
      exact ih (k + 1) _ _ _ _ _ (by omega) (by omega) g1 (by rw [g2, ← hD, mfO_s]) g3 g4 g5 g6

set_option maxRecDepth 20000 in
theorem l_flI (hV : VRm μ) {ν : Mem} (hF : FF μ ν) (hB : DB (ν 268)) (hS : SdOK (μ 259) (μ 260) (μ 256 1).toNat (ν 266) (ν 267)) {p t : Int} (hp : 0 ≤ p ∧ p < μ 256 0) (ht : 0 ≤ t ∧ t < μ 256 0) (hpt : ¬ t = p) {R : Int} (hex : ∀ i (y4 y5 : AV), V X mX12_findLand 416 [vr 256, vi p, vi t, vi i, y4, y5] [] (mu ν 269 (9 * p + t).toNat R)) : ∀ (n : Nat) (i : Int) (y4 y5 : AV) (v : Int), (i + 1 = n) → (i < ν 266 p.toNat) → (mAr (μ 259) (μ 260) (μ 261) (ν 268) (ν 267) p t n v = R) → V X mX12_findLand 296 [vr 256, vi p, vi t, vi i, y4, y5] [] (mu ν 269 (9 * p + t).toNat v) := by
  intro n
  induction n with
  | zero =>
    intro i y4 y5 v h1 hn hR
    have v1 := hV.1
    refine V_iloadn (pc := 296) dX12_findLand_296 rfl ?_
    refine V_if_lt (pc := 297) (tgt := 416) dX12_findLand_297 (by decide) (by omega) (fun h297 => ?_) (fun h297 => ?_)
    · have e : v = R := hR
      rw [e]
      exact hex i y4 y5
    · exfalso; omega
  | succ n ih =>
    intro i y4 y5 v h1 hn hR
    obtain ⟨v1, v2, v3, v4⟩ := id hV
    have e259 := hF 259 (by decide)
    have e260 := hF 260 (by decide)
    have e261 := hF 261 (by decide)
    obtain ⟨r, hr1, hr2, hr3⟩ := sideRoad_ex hS (p := p) (i := i) (by omega) (by omega)
    have hq : ν 267 (5 * p + i).toNat = r := hr3
    obtain ⟨va, vb, vn, vl⟩ := v3 r (by omega)
    have eI : i = (n : Int) := by omega
    have s5 := hS.1 p.toNat (by omega)
    have c5 := v4 ((p.toNat : Nat) : Int)
    have a1 := hB.2 (9 * p + t).toNat (by omega)
    refine V_iloadn (pc := 296) dX12_findLand_296 rfl ?_
    refine V_if_lt (pc := 297) (tgt := 416) dX12_findLand_297 (by decide) (by omega) (fun h297 => ?_) (fun h297 => ?_)
    · exfalso; omega
    · refine V_iloadn (pc := 300) dX12_findLand_300 rfl ?_
      refine V_iloadn (pc := 301) dX12_findLand_301 rfl ?_
      refine V_icmp_eq (pc := 302) (tgt := 416) dX12_findLand_302 (by decide) (by omega) (by omega) (fun h302 => ?_) (fun h302 => ?_)
      · exfalso; omega
      · refine V_aloadn (pc := 305) dX12_findLand_305 rfl ?_
        refine V_getr (pc := 306) dX12_findLand_306 fX12_31 zk_256 zr_256_10 ?_
        refine V_iconst (pc := 309) dX12_findLand_309 ?_
        refine V_iloadn (pc := 310) dX12_findLand_310 rfl ?_
        refine V_imul (pc := 311) dX12_findLand_311 ?_
        refine V_iloadn (pc := 312) dX12_findLand_312 rfl ?_
        refine V_iadd (pc := 313) dX12_findLand_313 ?_
        refine V_iald (pc := 314) dX12_findLand_314 zk_267 (by omega) (by omega) (by decide) ?_
        rw [mu_c (by decide : (267 : Nat) ≠ 269)]
        rw [hq]
        refine V_istore_4 (pc := 315) dX12_findLand_315 (by decide) rfl ?_
        refine V_aloadn (pc := 317) dX12_findLand_317 rfl ?_
        refine V_getr (pc := 318) dX12_findLand_318 fX12_34 zk_256 zr_256_11 ?_
        refine V_bipush (pc := 321) dX12_findLand_321 (by decide +kernel) ?_
        refine V_iloadn (pc := 323) dX12_findLand_323 rfl ?_
        refine V_imul (pc := 324) dX12_findLand_324 ?_
        refine V_iloadn (pc := 325) dX12_findLand_325 rfl ?_
        refine V_iadd (pc := 326) dX12_findLand_326 ?_
        refine V_iald (pc := 327) dX12_findLand_327 zk_268 (by omega) (by omega) (by decide) ?_
        rw [mu_c (by decide : (268 : Nat) ≠ 269)]
        refine V_ldc (pc := 328) (n := 1000000) dX12_findLand_328 nX12_236 (by decide) ?_
        refine V_icmp_ge (pc := 330) (tgt := 376) dX12_findLand_330 (by decide) (by omega) (by decide) (fun h330 => ?_) (fun h330 => ?_)
        · refine V_iconst (pc := 376) dX12_findLand_376 ?_
          refine V_istore_5 (pc := 377) dX12_findLand_377 (by decide) rfl ?_
          refine V_aloadn (pc := 379) dX12_findLand_379 rfl ?_
          refine V_getr (pc := 380) dX12_findLand_380 fX12_37 zk_256 zr_256_12 ?_
          refine V_bipush (pc := 383) dX12_findLand_383 (by decide +kernel) ?_
          refine V_iloadn (pc := 385) dX12_findLand_385 rfl ?_
          refine V_imul (pc := 386) dX12_findLand_386 ?_
          refine V_iloadn (pc := 387) dX12_findLand_387 rfl ?_
          refine V_iadd (pc := 388) dX12_findLand_388 ?_
          refine V_iload (pc := 389) dX12_findLand_389 rfl ?_
          refine V_if_eq (pc := 391) (tgt := 398) dX12_findLand_391 (by decide) (by omega) (fun h391 => ?_) (fun h391 => ?_)
          · refine V_aloadn (pc := 398) dX12_findLand_398 rfl ?_
            refine V_getr (pc := 399) dX12_findLand_399 fX12_37 zk_256 zr_256_12 ?_
            refine V_bipush (pc := 402) dX12_findLand_402 (by decide +kernel) ?_
            refine V_iloadn (pc := 404) dX12_findLand_404 rfl ?_
            refine V_imul (pc := 405) dX12_findLand_405 ?_
            refine V_iloadn (pc := 406) dX12_findLand_406 rfl ?_
            refine V_iadd (pc := 407) dX12_findLand_407 ?_
            refine V_iald (pc := 408) dX12_findLand_408 zk_269 (by omega) (by omega) (by decide) ?_
            rw [mu_h]
            refine V_iast (pc := 409) dX12_findLand_409 zk_269 (by omega) (by omega) (by decide) ?_
            refine V_iinc_3 (pc := 410) dX12_findLand_410 (by decide) rfl ?_
            refine V_goto (pc := 413) (tgt := 296) dX12_findLand_413 (by decide) ?_
            rw [mu_mu]
            refine ih _ _ _ _ (by omega) (by omega) ?_
            rw [← hR, mAr_s]
            unfold ldsM
            rw [← eI, hq, show ((r : Int)).toNat = r by omega]
            first | (exfalso; omega) | rw [if_pos (And.intro (by omega) (by omega))] | rw [if_neg (fun q => by omega)]
          · refine V_iloadn (pc := 394) dX12_findLand_394 rfl ?_
            refine V_goto (pc := 395) (tgt := 409) dX12_findLand_395 (by decide) ?_
            refine V_iast (pc := 409) dX12_findLand_409 zk_269 (by omega) (by omega) (by decide) ?_
            refine V_iinc_3 (pc := 410) dX12_findLand_410 (by decide) rfl ?_
            refine V_goto (pc := 413) (tgt := 296) dX12_findLand_413 (by decide) ?_
            rw [mu_mu]
            refine ih _ _ _ _ (by omega) (by omega) ?_
            rw [← hR, mAr_s]
            unfold ldsM
            rw [← eI, hq, show ((r : Int)).toNat = r by omega]
            first | (exfalso; omega) | rw [if_pos (And.intro (by omega) (by omega))] | rw [if_neg (fun q => by omega)]
        · refine V_aloadn (pc := 333) dX12_findLand_333 rfl ?_
          refine V_getr (pc := 334) dX12_findLand_334 fX12_16 zk_256 zr_256_4 ?_
          refine V_iload (pc := 337) dX12_findLand_337 rfl ?_
          refine V_iald (pc := 339) dX12_findLand_339 zk_261 (by omega) (by omega) (by decide) ?_
          rw [mu_c (by decide : (261 : Nat) ≠ 269)]
          rw [e261, show ((r : Int)).toNat = r by omega]
          refine V_aloadn (pc := 340) dX12_findLand_340 rfl ?_
          refine V_getr (pc := 341) dX12_findLand_341 fX12_34 zk_256 zr_256_11 ?_
          refine V_bipush (pc := 344) dX12_findLand_344 (by decide +kernel) ?_
          refine V_aloadn (pc := 346) dX12_findLand_346 rfl ?_
          refine V_iload (pc := 347) dX12_findLand_347 rfl ?_
          refine V_iloadn (pc := 349) dX12_findLand_349 rfl ?_
          refine V_cv2 (pc := 350) dX12_findLand_350 kX12_237 zk_256 (by decide) (Nat.le_of_ble_eq_true rfl) (r_otherRaw (by omega) (by omega) (by rw [mu_c (by decide), e259, show ((r : Int)).toNat = r by omega]; omega) (by rw [mu_c (by decide), e260, show ((r : Int)).toNat = r by omega]; omega) (by rw [mu_c (by decide), mu_c (by decide), e259, e260, show ((r : Int)).toNat = r by omega]; exact hr2)) rfl ?_
          rw [mu_ne (by decide), mu_ne (by decide), e259, e260, show ((r : Int)).toNat = r by omega]
          have hoe : 0 ≤ (if μ 259 r = p then μ 260 r else μ 259 r) ∧ (if μ 259 r = p then μ 260 r else μ 259 r) < 9 := by split <;> omega
          have a2 := hB.2 (9 * (if μ 259 r = p then μ 260 r else μ 259 r) + t).toNat (by omega)
          refine V_imul (pc := 353) dX12_findLand_353 ?_
          refine V_iloadn (pc := 354) dX12_findLand_354 rfl ?_
          refine V_iadd (pc := 355) dX12_findLand_355 ?_
          refine V_iald (pc := 356) dX12_findLand_356 zk_268 (by omega) (by omega) (by decide) ?_
          rw [mu_c (by decide : (268 : Nat) ≠ 269)]
          refine V_iadd (pc := 357) dX12_findLand_357 ?_
          refine V_aloadn (pc := 358) dX12_findLand_358 rfl ?_
          refine V_getr (pc := 359) dX12_findLand_359 fX12_34 zk_256 zr_256_11 ?_
          refine V_bipush (pc := 362) dX12_findLand_362 (by decide +kernel) ?_
          refine V_iloadn (pc := 364) dX12_findLand_364 rfl ?_
          refine V_imul (pc := 365) dX12_findLand_365 ?_
          refine V_iloadn (pc := 366) dX12_findLand_366 rfl ?_
          refine V_iadd (pc := 367) dX12_findLand_367 ?_
          refine V_iald (pc := 368) dX12_findLand_368 zk_268 (by omega) (by omega) (by decide) ?_
          rw [mu_c (by decide : (268 : Nat) ≠ 269)]
          refine V_icmp_ne (pc := 369) (tgt := 376) dX12_findLand_369 (by decide) (by omega) (by omega) (fun h369 => ?_) (fun h369 => ?_)
          · refine V_iconst (pc := 376) dX12_findLand_376 ?_
            refine V_istore_5 (pc := 377) dX12_findLand_377 (by decide) rfl ?_
            refine V_aloadn (pc := 379) dX12_findLand_379 rfl ?_
            refine V_getr (pc := 380) dX12_findLand_380 fX12_37 zk_256 zr_256_12 ?_
            refine V_bipush (pc := 383) dX12_findLand_383 (by decide +kernel) ?_
            refine V_iloadn (pc := 385) dX12_findLand_385 rfl ?_
            refine V_imul (pc := 386) dX12_findLand_386 ?_
            refine V_iloadn (pc := 387) dX12_findLand_387 rfl ?_
            refine V_iadd (pc := 388) dX12_findLand_388 ?_
            refine V_iload (pc := 389) dX12_findLand_389 rfl ?_
            refine V_if_eq (pc := 391) (tgt := 398) dX12_findLand_391 (by decide) (by omega) (fun h391 => ?_) (fun h391 => ?_)
            · refine V_aloadn (pc := 398) dX12_findLand_398 rfl ?_
              refine V_getr (pc := 399) dX12_findLand_399 fX12_37 zk_256 zr_256_12 ?_
              refine V_bipush (pc := 402) dX12_findLand_402 (by decide +kernel) ?_
              refine V_iloadn (pc := 404) dX12_findLand_404 rfl ?_
              refine V_imul (pc := 405) dX12_findLand_405 ?_
              refine V_iloadn (pc := 406) dX12_findLand_406 rfl ?_
              refine V_iadd (pc := 407) dX12_findLand_407 ?_
              refine V_iald (pc := 408) dX12_findLand_408 zk_269 (by omega) (by omega) (by decide) ?_
              rw [mu_h]
              refine V_iast (pc := 409) dX12_findLand_409 zk_269 (by omega) (by omega) (by decide) ?_
              refine V_iinc_3 (pc := 410) dX12_findLand_410 (by decide) rfl ?_
              refine V_goto (pc := 413) (tgt := 296) dX12_findLand_413 (by decide) ?_
              rw [mu_mu]
              refine ih _ _ _ _ (by omega) (by omega) ?_
              rw [← hR, mAr_s]
              unfold ldsM
              rw [← eI, hq, show ((r : Int)).toNat = r by omega]
              first | (exfalso; omega) | rw [if_pos (And.intro (by omega) (by omega))] | rw [if_neg (fun q => by omega)]
            · refine V_iloadn (pc := 394) dX12_findLand_394 rfl ?_
              refine V_goto (pc := 395) (tgt := 409) dX12_findLand_395 (by decide) ?_
              refine V_iast (pc := 409) dX12_findLand_409 zk_269 (by omega) (by omega) (by decide) ?_
              refine V_iinc_3 (pc := 410) dX12_findLand_410 (by decide) rfl ?_
              refine V_goto (pc := 413) (tgt := 296) dX12_findLand_413 (by decide) ?_
              rw [mu_mu]
              refine ih _ _ _ _ (by omega) (by omega) ?_
              rw [← hR, mAr_s]
              unfold ldsM
              rw [← eI, hq, show ((r : Int)).toNat = r by omega]
              first | (exfalso; omega) | rw [if_pos (And.intro (by omega) (by omega))] | rw [if_neg (fun q => by omega)]
          · refine V_iconst (pc := 372) dX12_findLand_372 ?_
            refine V_goto (pc := 373) (tgt := 377) dX12_findLand_373 (by decide) ?_
            refine V_istore_5 (pc := 377) dX12_findLand_377 (by decide) rfl ?_
            refine V_aloadn (pc := 379) dX12_findLand_379 rfl ?_
            refine V_getr (pc := 380) dX12_findLand_380 fX12_37 zk_256 zr_256_12 ?_
            refine V_bipush (pc := 383) dX12_findLand_383 (by decide +kernel) ?_
            refine V_iloadn (pc := 385) dX12_findLand_385 rfl ?_
            refine V_imul (pc := 386) dX12_findLand_386 ?_
            refine V_iloadn (pc := 387) dX12_findLand_387 rfl ?_
            refine V_iadd (pc := 388) dX12_findLand_388 ?_
            refine V_iload (pc := 389) dX12_findLand_389 rfl ?_
            refine V_if_eq (pc := 391) (tgt := 398) dX12_findLand_391 (by decide) (by omega) (fun h391 => ?_) (fun h391 => ?_)
            · refine V_aloadn (pc := 398) dX12_findLand_398 rfl ?_
              refine V_getr (pc := 399) dX12_findLand_399 fX12_37 zk_256 zr_256_12 ?_
              refine V_bipush (pc := 402) dX12_findLand_402 (by decide +kernel) ?_
              refine V_iloadn (pc := 404) dX12_findLand_404 rfl ?_
              refine V_imul (pc := 405) dX12_findLand_405 ?_
              refine V_iloadn (pc := 406) dX12_findLand_406 rfl ?_
              refine V_iadd (pc := 407) dX12_findLand_407 ?_
              refine V_iald (pc := 408) dX12_findLand_408 zk_269 (by omega) (by omega) (by decide) ?_
              rw [mu_h]
              refine V_iast (pc := 409) dX12_findLand_409 zk_269 (by omega) (by omega) (by decide) ?_
              refine V_iinc_3 (pc := 410) dX12_findLand_410 (by decide) rfl ?_
              refine V_goto (pc := 413) (tgt := 296) dX12_findLand_413 (by decide) ?_
              rw [mu_mu]
              refine ih _ _ _ _ (by omega) (by omega) ?_
              rw [← hR, mAr_s]
              unfold ldsM
              rw [← eI, hq, show ((r : Int)).toNat = r by omega]
              first | (exfalso; omega) | rw [if_pos (And.intro (by omega) (by omega))] | rw [if_neg (fun q => by omega)]
            · refine V_iloadn (pc := 394) dX12_findLand_394 rfl ?_
              refine V_goto (pc := 395) (tgt := 409) dX12_findLand_395 (by decide) ?_
              refine V_iast (pc := 409) dX12_findLand_409 zk_269 (by omega) (by omega) (by decide) ?_
              refine V_iinc_3 (pc := 410) dX12_findLand_410 (by decide) rfl ?_
              refine V_goto (pc := 413) (tgt := 296) dX12_findLand_413 (by decide) ?_
              rw [mu_mu]
              refine ih _ _ _ _ (by omega) (by omega) ?_
              rw [← hR, mAr_s]
              unfold ldsM
              rw [← eI, hq, show ((r : Int)).toNat = r by omega]
              first | (exfalso; omega) | rw [if_pos (And.intro (by omega) (by omega))] | rw [if_neg (fun q => by omega)]

def AP (μ : Mem) (D S Q : Row) (p t : Int) (T : Row) : Prop := (∀ x : Nat, x < 81 → T x = if (((x / 9 : Nat) : Int) < p ∨ (((x / 9 : Nat) : Int) = p ∧ ((x % 9 : Nat) : Int) < t)) ∧ ((x % 9 : Nat) : Int) < μ 256 0 then AR (μ 259) (μ 260) (μ 261) D Q S (x / 9) (x % 9) else -1) ∧ ∀ x : Nat, 81 ≤ x → T x = μ 269 x
theorem AP_next {D S Q : Row} {p : Int} {T : Row} (h : AP μ D S Q p (μ 256 0) T) : AP μ D S Q (p + 1) 0 T := by
  refine ⟨fun x hx => ?_, h.2⟩
  rw [h.1 x hx]
  by_cases c : (((x / 9 : Nat) : Int) < p ∨ (((x / 9 : Nat) : Int) = p ∧ ((x % 9 : Nat) : Int) < μ 256 0)) ∧ ((x % 9 : Nat) : Int) < μ 256 0
  · rw [if_pos c, if_pos (by omega)]
  · rw [if_neg c, if_neg (by omega)]
theorem AP_old {D S Q : Row} {p t : Int} {T : Row} (hp : 0 ≤ p ∧ p < 9) (ht : 0 ≤ t ∧ t < 9) (h : AP μ D S Q p t T) : T (9 * p + t).toNat = -1 := by
  rw [h.1 _ (by omega), if_neg (by omega)]
theorem AP_step {D S Q : Row} {p t : Int} {T : Row} (hp : 0 ≤ p ∧ p < 9) (ht : 0 ≤ t ∧ t < μ 256 0) (hP : μ 256 0 ≤ 9) (h : AP μ D S Q p t T) {R : Int} (hR : R = AR (μ 259) (μ 260) (μ 261) D Q S p.toNat t.toNat) : AP μ D S Q p (t + 1) (up T (9 * p + t).toNat R) := by
  refine ⟨fun x hx => ?_, fun x hx => ?_⟩
  · unfold up
    by_cases e : x = (9 * p + t).toNat
    · rw [if_pos e, if_pos (by omega), hR, show x / 9 = p.toNat by omega, show x % 9 = t.toNat by omega]
    · rw [if_neg e, h.1 x hx]
      by_cases c : (((x / 9 : Nat) : Int) < p ∨ (((x / 9 : Nat) : Int) = p ∧ ((x % 9 : Nat) : Int) < t)) ∧ ((x % 9 : Nat) : Int) < μ 256 0
      · rw [if_pos c, if_pos (by omega)]
      · rw [if_neg c, if_neg (by omega)]
  · unfold up
    rw [if_neg (by omega), h.2 x hx]

set_option maxRecDepth 20000 in
theorem l_flT (hV : VRm μ) {D1 S1 Q1 : Row} (hB : DB D1) (hS : SdOK (μ 259) (μ 260) (μ 256 1).toNat S1 Q1) {p : Int} (hp : 0 ≤ p ∧ p < μ 256 0) (hex : ∀ t (y3 y4 y5 : AV) (ν : Mem), FF μ ν → ν 268 = D1 → ν 266 = S1 → ν 267 = Q1 → AP μ D1 S1 Q1 p (μ 256 0) (ν 269) → V X mX12_findLand 422 [vr 256, vi p, vi t, y3, y4, y5] [] ν) : ∀ (n : Nat) (t : Int) (y3 y4 y5 : AV) (ν : Mem), (t + n = μ 256 0) → (0 ≤ t) → (FF μ ν) → (ν 268 = D1) → (ν 266 = S1) → (ν 267 = Q1) → (AP μ D1 S1 Q1 p t (ν 269)) → V X mX12_findLand 279 [vr 256, vi p, vi t, y3, y4, y5] [] ν := by
  intro n
  induction n with
  | zero =>
    intro t y3 y4 y5 ν h1 h0 hF hD h6 h7 hA
    have v1 := hV.1
    have e256 := hF 256 (by decide)
    refine V_iloadn (pc := 279) dX12_findLand_279 rfl ?_
    refine V_aloadn (pc := 280) dX12_findLand_280 rfl ?_
    refine V_geti (r := 0) (pc := 281) dX12_findLand_281 fX12_118 zk_256 ?_
    rw [e256]
    refine V_icmp_ge (pc := 284) (tgt := 422) dX12_findLand_284 (by decide) (by omega) (by omega) (fun h284 => ?_) (fun h284 => ?_)
    · obtain rfl : t = μ 256 0 := by omega
      exact hex _ y3 y4 y5 ν hF hD h6 h7 hA
    · exfalso; omega
  | succ n ih =>
    intro t y3 y4 y5 ν h1 h0 hF hD h6 h7 hA
    have v1 := hV.1
    have e256 := hF 256 (by decide)
    have s5 := hS.1 p.toNat (by omega)
    have c5 := hV.2.2.2 ((p.toNat : Nat) : Int)
    have s0 := (cnt_mono (f := μ 259) (g := μ 260) (p := ((p.toNat : Nat) : Int)) (μ 256 1).toNat _ (Nat.le_refl _)).1
    have s6 : ν 266 p.toNat = S1 p.toNat := by rw [h6]
    refine V_iloadn (pc := 279) dX12_findLand_279 rfl ?_
    refine V_aloadn (pc := 280) dX12_findLand_280 rfl ?_
    refine V_geti (r := 0) (pc := 281) dX12_findLand_281 fX12_118 zk_256 ?_
    rw [e256]
    refine V_icmp_ge (pc := 284) (tgt := 422) dX12_findLand_284 (by decide) (by omega) (by omega) (fun h284 => ?_) (fun h284 => ?_)
    · exfalso; omega
    · refine V_aloadn (pc := 287) dX12_findLand_287 rfl ?_
      refine V_getr (pc := 288) dX12_findLand_288 fX12_28 zk_256 zr_256_9 ?_
      refine V_iloadn (pc := 291) dX12_findLand_291 rfl ?_
      refine V_iald (pc := 292) dX12_findLand_292 zk_266 (by omega) (by omega) (by decide) ?_
      refine V_iconst (pc := 293) dX12_findLand_293 ?_
      refine V_isub (pc := 294) dX12_findLand_294 ?_
      refine V_istore_3 (pc := 295) dX12_findLand_295 (by decide) rfl ?_
      have hold := AP_old (by omega) (by omega) hA
      have key : ∀ (j : Int) (z4 z5 : AV) (R : Int), R = AR (μ 259) (μ 260) (μ 261) D1 Q1 S1 p.toNat t.toNat → V X mX12_findLand 416 [vr 256, vi p, vi t, vi j, z4, z5] [] (mu ν 269 (9 * p + t).toNat R) := by
        intro j z4 z5 R hR
        refine V_iinc_2 (pc := 416) dX12_findLand_416 (by decide) rfl ?_
        refine V_goto (pc := 419) (tgt := 279) dX12_findLand_419 (by decide) ?_
        exact ih (t + 1) _ _ _ _ (by omega) (by omega) (hF.mu1 (by decide)) (by rw [mu_ne (by decide)]; exact hD) (by rw [mu_ne (by decide)]; exact h6) (by rw [mu_ne (by decide)]; exact h7) (by rw [mu_row]; exact AP_step (by omega) (by omega) (by omega) hA hR)
      by_cases hpt : t = p
      · have k2 := key (ν 266 p.toNat - 1) y4 y5 (-1) (by unfold AR; rw [if_pos (by omega)])
        rw [← hold, mu_sv] at k2
        refine V_iloadn (pc := 296) dX12_findLand_296 rfl ?_
        refine V_if_lt (pc := 297) (tgt := 416) dX12_findLand_297 (by decide) (by omega) (fun h297 => k2) (fun h297 => ?_)
        refine V_iloadn (pc := 300) dX12_findLand_300 rfl ?_
        refine V_iloadn (pc := 301) dX12_findLand_301 rfl ?_
        exact V_icmp_eq (pc := 302) (tgt := 416) dX12_findLand_302 (by decide) (by omega) (by omega) (fun h302 => k2) (fun h302 => by exfalso; omega)
      · have e := l_flI hV hF (by rw [hD]; exact hB) (by rw [h6, h7]; exact hS) (by omega) (by omega) hpt (R := AR (μ 259) (μ 260) (μ 261) D1 Q1 S1 p.toNat t.toNat) (fun j z4 z5 => key j z4 z5 _ rfl) (ν 266 p.toNat).toNat (ν 266 p.toNat - 1) y4 y5 (-1) (by omega) (by omega) (by
          unfold AR
          rw [if_neg (by omega), h6, hD, h7, show ((p.toNat : Nat) : Int) = p by omega, show ((t.toNat : Nat) : Int) = t by omega])
        rw [← hold, mu_sv] at e
        exact e

set_option maxRecDepth 20000 in
theorem l_flP (hV : VRm μ) {D1 S1 Q1 : Row} (hB : DB D1) (hS : SdOK (μ 259) (μ 260) (μ 256 1).toNat S1 Q1) (hex : ∀ (ν : Mem), FF μ ν → ν 268 = D1 → ν 266 = S1 → ν 267 = Q1 → AP μ D1 S1 Q1 (μ 256 0) 0 (ν 269) → ∀ p (y2 y3 y4 y5 : AV), V X mX12_findLand 428 [vr 256, vi p, y2, y3, y4, y5] [] ν) : ∀ (n : Nat) (p : Int) (y2 y3 y4 y5 : AV) (ν : Mem), (p + n = μ 256 0) → (0 ≤ p) → (FF μ ν) → (ν 268 = D1) → (ν 266 = S1) → (ν 267 = Q1) → (AP μ D1 S1 Q1 p 0 (ν 269)) → V X mX12_findLand 269 [vr 256, vi p, y2, y3, y4, y5] [] ν := by
  intro n
  induction n with
  | zero =>
    intro p y2 y3 y4 y5 ν h1 h0 hF hD h6 h7 hA
    have v1 := hV.1
    have e256 := hF 256 (by decide)
    refine V_iloadn (pc := 269) dX12_findLand_269 rfl ?_
    refine V_aloadn (pc := 270) dX12_findLand_270 rfl ?_
    refine V_geti (r := 0) (pc := 271) dX12_findLand_271 fX12_118 zk_256 ?_
    rw [e256]
    refine V_icmp_ge (pc := 274) (tgt := 428) dX12_findLand_274 (by decide) (by omega) (by omega) (fun h274 => ?_) (fun h274 => ?_)
    · obtain rfl : p = μ 256 0 := by omega
      exact hex ν hF hD h6 h7 hA _ y2 y3 y4 y5
    · exfalso; omega
  | succ n ih =>
    intro p y2 y3 y4 y5 ν h1 h0 hF hD h6 h7 hA
    have v1 := hV.1
    have e256 := hF 256 (by decide)
    refine V_iloadn (pc := 269) dX12_findLand_269 rfl ?_
    refine V_aloadn (pc := 270) dX12_findLand_270 rfl ?_
    refine V_geti (r := 0) (pc := 271) dX12_findLand_271 fX12_118 zk_256 ?_
    rw [e256]
    refine V_icmp_ge (pc := 274) (tgt := 428) dX12_findLand_274 (by decide) (by omega) (by omega) (fun h274 => ?_) (fun h274 => ?_)
    · exfalso; omega
    · refine V_iconst (pc := 277) dX12_findLand_277 ?_
      refine V_istore_2 (pc := 278) dX12_findLand_278 (by decide) rfl ?_
      refine l_flT hV hB hS (p := p) (by omega) (fun t z3 z4 z5 ξ g1 g2 g3 g4 g5 => ?_) (μ 256 0).toNat 0 _ _ _ ν (by omega) (by omega) hF hD h6 h7 hA
      refine V_iinc_1 (pc := 422) dX12_findLand_422 (by decide) rfl ?_
      refine V_goto (pc := 425) (tgt := 269) dX12_findLand_425 (by decide) ?_
      exact ih (p + 1) _ _ _ _ _ (by omega) (by omega) g1 g2 g3 g4 (AP_next g5)

end

def flD (μ : Mem) : Row := mfO (μ 256 0).toNat 0 (edM (μ 259) (μ 260) (μ 261) (μ 256 1).toNat 0 (fillR 81 0 (μ 268)))
def FLm (μ m : Mem) : Prop := FF μ m ∧ m 268 = flD μ ∧ DB (m 268) ∧ SdOK (μ 259) (μ 260) (μ 256 1).toNat (m 266) (m 267) ∧ (∀ p : Nat, 9 ≤ p → m 266 p = μ 266 p) ∧ AP μ (m 268) (m 266) (m 267) (μ 256 0) 0 (m 269)

set_option maxRecDepth 20000 in
theorem r_findLand {μ : Mem} (hV : VRm μ) (h268 : ∀ x, inR (μ 268 x)) : SP mX12_findLand [vr 256] μ (fun w m => w = un ∧ FLm μ m) := by
  refine SP_intro (ls := [vr 256, un, un, un, un, un]) (by decide +kernel) rfl rfl (Nat.le_of_ble_eq_true rfl) rfl (fun X hX => ?_)
  have v1 := hV.1
  have v2 := hV.2.1
  refine V_iconst (pc := 0) dX12_findLand_0 ?_
  refine V_istore_1 (pc := 1) dX12_findLand_1 (by decide) rfl ?_
  refine l_flA (μ := μ) (fun k y2 y3 y4 y5 ν g1 g2 g3 g4 g5 => ?_) 81 0 _ _ _ _ μ (by omega) (by omega) (FF.rf μ) rfl rfl rfl rfl
  refine V_iconst (pc := 44) dX12_findLand_44 ?_
  refine V_istore_1 (pc := 45) dX12_findLand_45 (by decide) rfl ?_
  refine l_flB (μ := μ) (D1 := fillR 81 0 (μ 268)) (T1 := fil1 81 0 (μ 269)) (Q1 := μ 267) (fun k y2 y3 y4 y5 ν g1 g2 g3 g4 g5 => ?_) 9 0 _ _ _ _ ν (by omega) (by omega) g1 g2 g3 (by rw [g4]; rfl) g5
  refine V_iconst (pc := 65) dX12_findLand_65 ?_
  refine V_istore_1 (pc := 66) dX12_findLand_66 (by decide) rfl ?_
  have hDB0 : DB (fillR 81 0 (μ 268)) := by
    refine ⟨fun x => ?_, fun x hx => ?_⟩
    · rw [fillR_get 81 0 _ x (by decide)]
      split
      · split <;> decide
      · exact h268 x
    · rw [fillR_get 81 0 _ x (by decide), if_pos (by omega)]
      split <;> decide
  have hDB : DB (edM (μ 259) (μ 260) (μ 261) (μ 256 1).toNat 0 (fillR 81 0 (μ 268))) := edM_db _ _ _ (fun x h1 h2 => by have := (hV.2.2.1 x (by omega)).2.2.2; omega) hDB0
  refine l_flC hV (D1 := edM (μ 259) (μ 260) (μ 261) (μ 256 1).toNat 0 (fillR 81 0 (μ 268))) (T1 := fil1 81 0 (μ 269)) (fun k y2 y3 y4 y5 ν g1 g2 g3 g4 g5 => ?_) (μ 256 1).toNat 0 _ _ _ _ ν (by omega) (by omega) g1 (by rw [g2]; rfl) g3 ?_ (fun p hp => by rw [g4, zr9_get, if_neg (by omega)])
  · refine V_iconst (pc := 181) dX12_findLand_181 ?_
    refine V_istore_1 (pc := 182) dX12_findLand_182 (by decide) rfl ?_
    refine l_flK hV (D1 := flD μ) (T1 := fil1 81 0 (μ 269)) (S1 := ν 266) (Q1 := ν 267) (fun k y2 y3 y4 y5 ξ q1 q2 q3 q4 q5 q6 => ?_) (μ 256 0).toNat 0 _ _ _ _ ν (by omega) (by omega) g1 (by rw [g2]; rfl) (by rw [g2]; exact hDB) g3 rfl rfl
    refine V_iconst (pc := 267) dX12_findLand_267 ?_
    refine V_istore_1 (pc := 268) dX12_findLand_268 (by decide) rfl ?_
    refine l_flP hV (D1 := flD μ) (S1 := ν 266) (Q1 := ν 267) (by rw [← q2]; exact q3) g4 (fun ζ r1 r2 r3 r4 r5 p y2 y3 y4 y5 => ?_) (μ 256 0).toNat 0 _ _ _ _ ξ (by omega) (by omega) q1 q2 q5 q6 ?_
    · refine V_vret (x := 0) hX dX12_findLand_428 rfl ?_
      refine ⟨rfl, r1, r2, by rw [r2, ← q2]; exact q3, by rw [r3, r4]; exact g4, fun p hp => by rw [r3]; exact g5 p hp, by rw [r2, r3, r4]; exact r5⟩
    · rw [q4]
      refine ⟨fun x hx => ?_, fun x hx => ?_⟩
      · rw [fil1_get 81 0 _ x (by decide), if_pos (by omega), if_neg (by omega)]
      · rw [fil1_get 81 0 _ x (by decide), if_neg (by omega)]
  · refine ⟨fun p hp => ?_, fun r p hr => by omega⟩
    rw [g4, zr9_get, if_pos (by omega)]
    rfl

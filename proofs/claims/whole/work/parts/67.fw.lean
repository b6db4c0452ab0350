/-! the fewest miles: both find them alike; what holds of them -/
theorem mfI_add {k : Int} : ∀ (n m : Nat) (i : Int) (D : Row), mfI k (n + m) i D = mfI k m (i + n) (mfI k n i D) := by
  intro n
  induction n with
  | zero => intro m i D; show mfI k (0 + m) i D = mfI k m (i + 0) D; rw [Nat.zero_add, Int.add_zero]
  | succ n ih =>
    intro m i D
    rw [show n + 1 + m = (n + m) + 1 by omega, mfI_s, ih, mfI_s, show i + 1 + (n : Int) = i + ((n + 1 : Nat) : Int) by omega]
theorem min_if (a b : Int) : min a b = if b < a then b else a := by
  by_cases h : b < a
  · rw [if_pos h, Int.min_eq_right (by omega)]
  · rw [if_neg h, Int.min_eq_left (by omega)]
theorem shI_eq {k a : Int} (hk : 0 ≤ k ∧ k < 9) (ha : 0 ≤ a ∧ a < 9) : ∀ (n : Nat) (b : Int) (D : Row), 0 ≤ b → b + n ≤ 9 → shI k a n b D = mfI k n (9 * a + b) D := by
  intro n
  induction n with
  | zero => intros; rfl
  | succ n ih =>
    intro b D h0 h1
    rw [shI_s, mfI_s, ih (b + 1) _ (by omega) (by omega), show 9 * a + (b + 1) = 9 * a + b + 1 by omega, min_if, show (9 * a + b) / 9 = a by omega, show (9 * a + b) % 9 = b by omega, show a * 9 + b = 9 * a + b by omega, show a * 9 + k = 9 * a + k by omega, show k * 9 + b = 9 * k + b by omega]
theorem shO_eq {k : Int} (hk : 0 ≤ k ∧ k < 9) : ∀ (n : Nat) (a : Int) (D : Row), 0 ≤ a → a + n ≤ 9 → shO k n a D = mfI k (9 * n) (9 * a) D := by
  intro n
  induction n with
  | zero => intros; rfl
  | succ n ih =>
    intro a D h0 h1
    rw [shO_s, ih (a + 1) _ (by omega) (by omega), shI_eq hk (by omega) 9 0 D (by decide) (by decide), show 9 * (n + 1) = 9 + 9 * n by omega, mfI_add, Int.add_zero, show 9 * (a + 1) = 9 * a + ((9 : Nat) : Int) by omega]
theorem fwN_eq : ∀ (n : Nat) (k : Int) (D : Row), 0 ≤ k → k + n ≤ 9 → fwN n k D = mfO n k D := by
  intro n
  induction n with
  | zero => intros; rfl
  | succ n ih => intro k D h0 h1; rw [fwN_s, mfO_s, ih _ _ (by omega) (by omega), shO_eq (by omega) 9 0 D (by decide) (by decide)]; rfl
abbrev dd (D : Row) (a b : Nat) : Int := D (9 * a + b)
def Dg (D : Row) : Prop := ∀ a, a < 9 → dd D a a = 0
theorem mfI_get {k : Nat} (hk : k < 9) : ∀ (n i : Nat) (D : Row), i + n ≤ 81 → DB D → dd D k k = 0 → ∀ x, mfI k n i D x = if i ≤ x ∧ x < i + n then min (D x) (dd D (x / 9) k + dd D k (x % 9)) else D x := by
  intro n
  induction n with
  | zero => intro i D _ _ _ x; rw [if_neg (by omega)]; rfl
  | succ n ih =>
    intro i D h1 hD hz x
    rw [mfI_s, ← min_if]
    have ei : ((i : Int)).toNat = i := by omega
    have e1 : (9 * ((i : Int) / 9) + (k : Int)).toNat = 9 * (i / 9) + k := by omega
    have e2 : (9 * (k : Int) + (i : Int) % 9).toNat = 9 * k + i % 9 := by omega
    rw [ei, e1, e2]
    have b1 := hD.2 (9 * (i / 9) + k) (by omega)
    have b2 := hD.2 (9 * k + i % 9) (by omega)
    have b3 := hD.2 i (by omega)
    have hv : 0 ≤ min (D i) (D (9 * (i / 9) + k) + D (9 * k + i % 9)) ∧ min (D i) (D (9 * (i / 9) + k) + D (9 * k + i % 9)) ≤ 1000000 := by rw [min_if]; split <;> omega
    have col : ∀ a, a < 9 → up D i (min (D i) (D (9 * (i / 9) + k) + D (9 * k + i % 9))) (9 * a + k) = D (9 * a + k) := fun a ha => by
      unfold up
      split
      · rename_i c
        rw [← c, show (9 * a + k) / 9 = a by omega, show (9 * a + k) % 9 = k by omega, show D (9 * k + k) = 0 from hz, min_if]
        split <;> omega
      · rfl
    have row : ∀ b, b < 9 → up D i (min (D i) (D (9 * (i / 9) + k) + D (9 * k + i % 9))) (9 * k + b) = D (9 * k + b) := fun b hb => by
      unfold up
      split
      · rename_i c
        rw [← c, show (9 * k + b) / 9 = k by omega, show (9 * k + b) % 9 = b by omega, show D (9 * k + k) = 0 from hz, min_if]
        split <;> omega
      · rfl
    have := ih (i + 1) (up D i (min (D i) (D (9 * (i / 9) + k) + D (9 * k + i % 9)))) (by omega) (DB_up hD hv) (by show up _ _ _ (9 * k + k) = 0; rw [col k hk]; exact hz) x
    rw [show ((i + 1 : Nat) : Int) = (i : Int) + 1 by omega] at this
    rw [this]
    by_cases c : i + 1 ≤ x ∧ x < i + 1 + n
    · rw [if_pos c, if_pos (by omega)]
      show min (up D i _ x) (up D i _ (9 * (x / 9) + k) + up D i _ (9 * k + x % 9)) = _
      rw [col (x / 9) (by omega), row (x % 9) (by omega)]
      congr 1
      unfold up
      rw [if_neg (by omega)]
    · rw [if_neg c]
      by_cases e : x = i
      · subst e
        rw [if_pos (by omega)]
        unfold up
        rw [if_pos rfl]
      · rw [if_neg (by omega)]
        unfold up
        rw [if_neg e]
/-- one pass -/
theorem mf_get {k : Nat} (hk : k < 9) {D : Row} (hD : DB D) (hg : Dg D) (x : Nat) : mfI k 81 0 D x = if x < 81 then min (D x) (dd D (x / 9) k + dd D k (x % 9)) else D x := by
  have := mfI_get hk 81 0 D (by decide) hD (hg k hk) x
  rw [show ((0 : Nat) : Int) = 0 from rfl] at this
  rw [this]
  by_cases c : x < 81
  · rw [if_pos (by omega), if_pos c]
  · rw [if_neg (by omega), if_neg c]
theorem mf_dd {k : Nat} (hk : k < 9) {D : Row} (hD : DB D) (hg : Dg D) {a b : Nat} (ha : a < 9) (hb : b < 9) : dd (mfI k 81 0 D) a b = min (dd D a b) (dd D a k + dd D k b) := by
  show mfI k 81 0 D (9 * a + b) = _
  rw [mf_get hk hD hg, if_pos (by omega), show (9 * a + b) / 9 = a by omega, show (9 * a + b) % 9 = b by omega]
theorem dd_rg {D : Row} (hD : DB D) {a b : Nat} (ha : a < 9) (hb : b < 9) : 0 ≤ dd D a b ∧ dd D a b ≤ 1000000 := hD.2 _ (by omega)
theorem mf_db {k : Nat} (hk : k < 9) {D : Row} (hD : DB D) : DB (mfI k 81 0 D) := mfI_db (by omega) 81 0 D (by decide) (by decide) hD
theorem mf_dg {k : Nat} (hk : k < 9) {D : Row} (hD : DB D) (hg : Dg D) : Dg (mfI k 81 0 D) := fun a ha => by
  rw [mf_dd hk hD hg ha ha, hg a ha, min_if]
  have := dd_rg hD ha hk
  have := dd_rg hD hk ha
  split <;> omega
/-- the triangle over the first k places -/
def Tr (k : Nat) (D : Row) : Prop := ∀ j, j < k → ∀ a, a < 9 → ∀ b, b < 9 → dd D a b ≤ dd D a j + dd D j b
theorem mf_tr {k : Nat} (hk : k < 9) {D : Row} (hD : DB D) (hg : Dg D) (hT : Tr k D) : Tr (k + 1) (mfI k 81 0 D) := by
  intro j hj a ha b hb
  rw [mf_dd hk hD hg ha hb, mf_dd hk hD hg ha (by omega), mf_dd hk hD hg (by omega) hb]
  have z := hg k hk
  have n1 := dd_rg hD ha hk
  have n2 := dd_rg hD hk hb
  by_cases e : j = k
  · subst e
    rw [z, min_if, min_if, min_if]
    split <;> split <;> split <;> omega
  · have t1 := hT j (by omega) a ha b hb
    have t2 := hT j (by omega) a ha k hk
    have t3 := hT j (by omega) k hk b hb
    have m1 := dd_rg hD hk (show j < 9 by omega)
    have m2 := dd_rg hD (show j < 9 by omega) hk
    rw [min_if, min_if, min_if]
    split <;> split <;> split <;> omega
/-- every way begins with an edge -/
def Ex (ed : Nat → Nat → Int → Prop) (D : Row) : Prop := ∀ a, a < 9 → ∀ b, b < 9 → ¬ a = b → dd D a b < 1000000 → ∃ q l, q < 9 ∧ ed a q l ∧ l + dd D q b ≤ dd D a b
theorem mf_ex {ed : Nat → Nat → Int → Prop} {k : Nat} (hk : k < 9) {D : Row} (hD : DB D) (hg : Dg D) (hE : Ex ed D) : Ex ed (mfI k 81 0 D) := by
  intro a ha b hb hne h
  rw [mf_dd hk hD hg ha hb] at h ⊢
  have z := hg k hk
  have n1 := dd_rg hD ha hk
  have n2 := dd_rg hD hk hb
  by_cases c : dd D a k + dd D k b < dd D a b
  · rw [min_if, if_pos c] at h ⊢
    by_cases e : a = k
    · subst e; omega
    · obtain ⟨q, l, hq, h1, h2⟩ := hE a ha k hk e (by omega)
      refine ⟨q, l, hq, h1, ?_⟩
      rw [mf_dd hk hD hg hq hb, min_if]
      split <;> omega
  · rw [min_if, if_neg c] at h ⊢
    obtain ⟨q, l, hq, h1, h2⟩ := hE a ha b hb hne h
    refine ⟨q, l, hq, h1, ?_⟩
    rw [mf_dd hk hD hg hq hb, min_if]
    split <;> omega
/-- no edge is shorter than the way -/
def Me (ed : Nat → Nat → Int → Prop) (D : Row) : Prop := ∀ a q l, a < 9 → q < 9 → ed a q l → dd D a q ≤ l
theorem mf_me {ed : Nat → Nat → Int → Prop} {k : Nat} (hk : k < 9) {D : Row} (hD : DB D) (hg : Dg D) (hE : Me ed D) : Me ed (mfI k 81 0 D) := by
  intro a q l ha hq h
  have := hE a q l ha hq h
  rw [mf_dd hk hD hg ha hq, min_if]
  split <;> omega
/-- places from P on lie apart -/
def Is (P : Nat) (D : Row) : Prop := ∀ k, P ≤ k → k < 9 → ∀ a, a < 9 → ¬ a = k → dd D a k = 1000000 ∧ dd D k a = 1000000
theorem mf_is {P k : Nat} (hk : k < 9) {D : Row} (hD : DB D) (hg : Dg D) (hkP : k < P) (hI : Is P D) : Is P (mfI k 81 0 D) := by
  intro j h1 h2 a ha hne
  have i1 := hI j h1 h2 a ha hne
  have i2 := hI j h1 h2 k hk (by omega)
  have n1 := dd_rg hD ha hk
  have n2 := dd_rg hD hk ha
  rw [mf_dd hk hD hg ha h2, mf_dd hk hD hg h2 ha, min_if, min_if]
  constructor <;> split <;> omega
theorem mf_id {P k : Nat} (hk : k < 9) {D : Row} (hD : DB D) (hg : Dg D) (hkP : P ≤ k) (hI : Is P D) : mfI k 81 0 D = D := by
  funext x
  rw [mf_get hk hD hg]
  split
  · rename_i c
    have hx : D x = dd D (x / 9) (x % 9) := by show D x = D (9 * (x / 9) + x % 9); rw [show 9 * (x / 9) + x % 9 = x by omega]
    have r := dd_rg hD (show x / 9 < 9 by omega) (show x % 9 < 9 by omega)
    by_cases e1 : x / 9 = k
    · rw [e1, hg k hk] 
      rw [hx, e1, min_if]; split <;> omega
    · by_cases e2 : x % 9 = k
      · rw [e2, hg k hk]
        rw [hx, e2, min_if]; split <;> omega
      · have i1 := hI k hkP hk (x / 9) (by omega) e1
        have i2 := hI k hkP hk (x % 9) (by omega) e2
        rw [i1.1, i2.2, hx, min_if]; split <;> omega
  · rfl
/-- all that holds of the row of distances -/
def FI (ed : Nat → Nat → Int → Prop) (P k : Nat) (D : Row) : Prop := DB D ∧ Dg D ∧ Tr k D ∧ Ex ed D ∧ Me ed D ∧ Is P D
theorem FI_s {ed : Nat → Nat → Int → Prop} {P k : Nat} (hk : k < 9) (hkP : k < P) {D : Row} (h : FI ed P k D) : FI ed P (k + 1) (mfI k 81 0 D) := by
  obtain ⟨a, b, c, d, e, f⟩ := h
  exact ⟨mf_db hk a, mf_dg hk a b, mf_tr hk a b c, mf_ex hk a b d, mf_me hk a b e, mf_is hk a b hkP f⟩
theorem FI_n {ed : Nat → Nat → Int → Prop} {P : Nat} (hP : P ≤ 9) : ∀ (n k : Nat) (D : Row), k + n ≤ P → FI ed P k D → FI ed P (k + n) (mfO n k D) := by
  intro n
  induction n with
  | zero => intro k D _ h; exact h
  | succ n ih =>
    intro k D h1 h
    rw [mfO_s]
    have := ih (k + 1) (mfI k 81 0 D) (by omega) (FI_s (by omega) (by omega) h)
    rw [show ((k + 1 : Nat) : Int) = (k : Int) + 1 by omega] at this
    rw [show k + (n + 1) = k + 1 + n by omega]
    exact this
theorem mfO_add : ∀ (n m : Nat) (k : Int) (D : Row), mfO (n + m) k D = mfO m (k + n) (mfO n k D) := by
  intro n
  induction n with
  | zero => intro m k D; show mfO (0 + m) k D = mfO m (k + 0) D; rw [Nat.zero_add, Int.add_zero]
  | succ n ih => intro m k D; rw [show n + 1 + m = (n + m) + 1 by omega, mfO_s, ih, mfO_s, show k + 1 + (n : Int) = k + ((n + 1 : Nat) : Int) by omega]
theorem mfO_id {P : Nat} : ∀ (n k : Nat) (D : Row), P ≤ k → k + n ≤ 9 → DB D → Dg D → Is P D → mfO n k D = D := by
  intro n
  induction n with
  | zero => intros; rfl
  | succ n ih =>
    intro k D h0 h1 hD hg hI
    rw [mfO_s, mf_id (by omega) hD hg h0 hI]
    have := ih (k + 1) D (by omega) (by omega) hD hg hI
    rw [show ((k + 1 : Nat) : Int) = (k : Int) + 1 by omega] at this
    exact this
theorem mfO_9 {ed : Nat → Nat → Int → Prop} {P : Nat} (hP : P ≤ 9) {D : Row} (h : FI ed P 0 D) : mfO 9 0 D = mfO P 0 D := by
  have a := FI_n hP P 0 D (by omega) h
  rw [Nat.zero_add] at a
  have e := mfO_add P (9 - P) 0 D
  rw [show P + (9 - P) = 9 by omega, Int.zero_add] at e
  rw [e]
  exact mfO_id (P := P) (9 - P) P _ (Nat.le_refl P) (by omega) a.1 a.2.1 a.2.2.2.2.2
def E81 (D E : Row) : Prop := ∀ x, x < 81 → D x = E x
theorem E81_s {k : Nat} (hk : k < 9) {D E : Row} (hD : DB D) (hg : Dg D) (hE : DB E) (hgE : Dg E) (h : E81 D E) : E81 (mfI k 81 0 D) (mfI k 81 0 E) := by
  intro x hx
  rw [mf_get hk hD hg, mf_get hk hE hgE, if_pos hx, if_pos hx, h x hx]
  show min _ (D (9 * (x / 9) + k) + D (9 * k + x % 9)) = min _ (E (9 * (x / 9) + k) + E (9 * k + x % 9))
  rw [h _ (by omega), h _ (by omega)]
theorem E81_n : ∀ (n k : Nat) (D E : Row), k + n ≤ 9 → DB D → Dg D → DB E → Dg E → E81 D E → E81 (mfO n k D) (mfO n k E) := by
  intro n
  induction n with
  | zero => intro k D E _ _ _ _ _ h; exact h
  | succ n ih =>
    intro k D E h1 hD hg hE hgE h
    rw [mfO_s, mfO_s]
    have := ih (k + 1) (mfI k 81 0 D) (mfI k 81 0 E) (by omega) (mf_db (k := k) (by omega) hD) (mf_dg (k := k) (by omega) hD hg) (mf_db (k := k) (by omega) hE) (mf_dg (k := k) (by omega) hE hgE) (E81_s (k := k) (by omega) hD hg hE hgE h)
    rw [show ((k + 1 : Nat) : Int) = (k : Int) + 1 by omega] at this
    exact this
/-- an edge: a road that joins two places -/
def edg (f g l : Row) (n : Nat) (a q : Nat) (v : Int) : Prop := ∃ r, r < n ∧ ((f r = a ∧ g r = q) ∨ (f r = q ∧ g r = a)) ∧ v = l r
/-- no two roads join the same places -/
def UQ (f g : Row) (n : Nat) : Prop := ∀ r s, r < s → s < n → ¬ ((f r = f s ∧ g r = g s) ∨ (f r = g s ∧ g r = f s))
def Vr (f g l : Row) (n P : Nat) : Prop := ∀ r, r < n → (0 ≤ f r ∧ f r < P) ∧ (0 ≤ g r ∧ g r < P) ∧ ¬ f r = g r ∧ (1 ≤ l r ∧ l r ≤ 99)
/-- the row with the roads' miles -/
theorem edM_get {f g l : Row} {N P : Nat} (hP : P ≤ 9) (hV : Vr f g l N P) (hU : UQ f g N) : ∀ (n r : Nat) (D : Row), r + n = N → (∀ a b : Nat, a < 9 → b < 9 → (∃ s, s < r ∧ ((f s = a ∧ g s = b) ∨ (f s = b ∧ g s = a)) ∧ dd D a b = l s) ∨ ((∀ s, s < r → ¬ ((f s = a ∧ g s = b) ∨ (f s = b ∧ g s = a))) ∧ dd D a b = if a = b then 0 else 1000000)) → (∀ a b : Nat, a < 9 → b < 9 → (∃ s, s < N ∧ ((f s = a ∧ g s = b) ∨ (f s = b ∧ g s = a)) ∧ dd (edM f g l n r D) a b = l s) ∨ ((∀ s, s < N → ¬ ((f s = a ∧ g s = b) ∨ (f s = b ∧ g s = a))) ∧ dd (edM f g l n r D) a b = if a = b then 0 else 1000000)) := by
  intro n
  induction n with
  | zero => intro r D h0 h; obtain rfl : r = N := by omega
            exact h
  | succ n ih =>
    intro r D h0 h
    rw [edM_s]
    refine ih (r + 1) _ (by omega) (fun a b ha hb => ?_)
    obtain ⟨v1, v2, v3, v4⟩ := hV r (by omega)
    have hv : dd (up (up D (9 * f r + g r).toNat (l r)) (9 * g r + f r).toNat (l r)) a b = if (f r = a ∧ g r = b) ∨ (f r = b ∧ g r = a) then l r else dd D a b := by
      show up (up D (9 * f r + g r).toNat (l r)) (9 * g r + f r).toNat (l r) (9 * a + b) = _
      unfold up
      by_cases c1 : f r = b ∧ g r = a
      · rw [if_pos (by omega), if_pos (Or.inr c1)]
      · rw [if_neg (by omega)]
        by_cases c2 : f r = a ∧ g r = b
        · rw [if_pos (by omega), if_pos (Or.inl c2)]
        · rw [if_neg (by omega), if_neg (by omega)]
    rw [hv]
    by_cases c : (f r = a ∧ g r = b) ∨ (f r = b ∧ g r = a)
    · rw [if_pos c]
      exact Or.inl ⟨r, by omega, c, rfl⟩
    · rw [if_neg c]
      rcases h a b ha hb with ⟨s, h1, h2, h3⟩ | ⟨h1, h2⟩
      · exact Or.inl ⟨s, by omega, h2, h3⟩
      · refine Or.inr ⟨fun s hs => ?_, h2⟩
        by_cases e : s = r
        · rw [e]; exact c
        · exact h1 s (by omega)
theorem FI_0 {f g l : Row} {N P : Nat} (hP : P ≤ 9) (hV : Vr f g l N P) (hU : UQ f g N) {D : Row} (hD : DB D) (h : ∀ a b : Nat, a < 9 → b < 9 → (∃ s, s < N ∧ ((f s = a ∧ g s = b) ∨ (f s = b ∧ g s = a)) ∧ dd D a b = l s) ∨ ((∀ s, s < N → ¬ ((f s = a ∧ g s = b) ∨ (f s = b ∧ g s = a))) ∧ dd D a b = if a = b then 0 else 1000000)) : FI (edg f g l N) P 0 D := by
  have dg : Dg D := fun a ha => by
    rcases h a a ha ha with ⟨s, h1, h2, h3⟩ | ⟨h1, h2⟩
    · have := hV s h1; omega
    · rw [h2, if_pos rfl]
  refine ⟨hD, dg, fun j hj => by omega, fun a ha b hb hne hl => ?_, fun a q v ha hq he => ?_, fun k h1 h2 a ha hne => ?_⟩
  · rcases h a b ha hb with ⟨s, h1, h2, h3⟩ | ⟨h1, h2⟩
    · refine ⟨b, l s, hb, ⟨s, h1, h2, rfl⟩, ?_⟩
      rw [dg b hb, h3]; omega
    · rw [h2, if_neg hne] at hl; omega
  · obtain ⟨r, h1, h2, h3⟩ := he
    rcases h a q ha hq with ⟨s, g1, g2, g3⟩ | ⟨g1, g2⟩
    · have : s = r := by
        by_cases e : s = r
        · exact e
        · exfalso
          rcases (show s < r ∨ r < s by omega) with z | z
          · exact hU s r z h1 (by omega)
          · exact hU r s z g1 (by omega)
      rw [g3, this, h3]; exact Int.le_refl _
    · exact absurd h2 (g1 r h1)
  · have key : ∀ x y, x < 9 → y < 9 → (x = k ∨ y = k) → ¬ x = y → dd D x y = 1000000 := fun x y hx hy hk hxy => by
      rcases h x y hx hy with ⟨s, g1, g2, g3⟩ | ⟨g1, g2⟩
      · have := hV s g1; omega
      · rw [g2, if_neg hxy]
    exact ⟨key a k ha h2 (Or.inr rfl) hne, key k a h2 ha (Or.inl rfl) (fun e => hne e.symm)⟩

def ftOf (t : Nat) : FieldType := if t = 0 then .int else if t = 1 then .long else .boolean
/-- a class of the world: its name, fields, their types -/
def CK (c : Nat) (C : String) (T : u_T) (N : Nat) (ty0 : Nat → FieldType) : Prop := vwCl[c]? = some (C, T, N) ∧ (∀ w ∈ u_ws C T N, w ∈ TB) ∧ (∀ k, k < N → parseFieldDescriptor (T k).2.2.1 = some (ty0 k)) ∧ (∀ a, a < N → ∀ b, b < N → a ≠ b → (T a).2.1 ≠ (T b).2.1) ∧ (zf c).length = N
/-- a link to field j, of kind t, of class c -/
def FL (own : String) (idx c j t : Nat) : Prop := ∃ (C : String) (T : u_T) (N : Nat) (ty0 : Nat → FieldType), CK c C T N ty0 ∧ j < N ∧ Cond.fieldLink own idx (T j).1 (T j).2.1 (T j).2.2.1 ∈ TB ∧ (zf c)[j]? = some t ∧ (t < 3 → (T j).2.2.2 = false ∧ parseFieldDescriptor (T j).2.2.1 = some (ftOf t)) ∧ c < 99
theorem zf_get {ad : Nat → Nat} {k c j t : Nat} {r : Nat → Int} (h : (zf c)[j]? = some t) : ((zf c).mapIdx (fun j t => zv ad k r j t))[j]? = some (zv ad k r j t) := by
  simp [List.getElem?_mapIdx, h]
theorem zf_set {ad : Nat → Nat} {k c j t : Nat} {r r' : Nat → Int} (h : (zf c)[j]? = some t) (hr : ∀ b, b ≠ j → r' b = r b) : ((zf c).mapIdx (fun j t => zv ad k r j t)).set j (zv ad k r' j t) = (zf c).mapIdx (fun j t => zv ad k r' j t) := by
  apply List.ext_getElem?
  intro i
  have hl : j < ((zf c).mapIdx (fun j t => zv ad k r j t)).length := by simpa using (List.getElem?_eq_some_iff.mp h).1
  by_cases e : i = j
  · subst e
    rw [List.getElem?_set_self hl]
    simp [List.getElem?_mapIdx, h]
  · rw [List.getElem?_set_ne (Ne.symm e), List.getElem?_mapIdx, List.getElem?_mapIdx]
    cases hi : (zf c)[i]? with
    | none => rfl
    | some t' =>
      have := hr i e
      simp only [Option.map_some]
      congr 1
      unfold zv
      split <;> simp [this]

theorem V_geti {X : ZX} {M : MD} {pc : Nat} {ls st : List AV} {μ : Mem} {k c j idx r : Nat} (hd : decode M.1 pc = .ok (.getfield idx, 3)) (hf : FL M.2.1 idx c j 0) (hk : zk k = .inl c)  (kk : V X M (pc + 3) ls (vi (μ k j) :: st) μ) : V X M pc ls (vr k :: st) μ := by
  obtain ⟨⟨l, dC, dI, ad, ac, sK, sV⟩, p, e, R, s, m, args, below, meth, c, A, cells, slots, Fin⟩ := X
  obtain ⟨cc, own, y, nL, ret, d⟩ := M
  intro C H locs la hP hS hl
  have kk := kk C H locs la hP hS hl
  obtain ⟨hx, hb, hr, hlk, hml, hown, hts, hK, hD, hSX, hc1, hc2, hd1, hd2⟩ := C
  obtain ⟨Cn, T, N, ty0, ⟨g1, g2, g3, g4, g5⟩, g6, g7, g8, g9, g10⟩ := hf
  obtain ⟨q, hq, hw⟩ := zw_at (ad := ad) (ac := ac) μ (zk_mem hk (fun h => by cases h; omega))
  rw [zc_obj hk] at hw
  refine va_get hx hb hts g2 hown hK hP q hw g1 j g6 (hts _ g7) (fun _ h => h) (zf_get g8) hd ?_
  exact kk

theorem V_getl {X : ZX} {M : MD} {pc : Nat} {ls st : List AV} {μ : Mem} {k c j idx r : Nat} (hd : decode M.1 pc = .ok (.getfield idx, 3)) (hf : FL M.2.1 idx c j 1) (hk : zk k = .inl c)  (kk : V X M (pc + 3) ls (vl (μ k j) :: st) μ) : V X M pc ls (vr k :: st) μ := by
  obtain ⟨⟨l, dC, dI, ad, ac, sK, sV⟩, p, e, R, s, m, args, below, meth, c, A, cells, slots, Fin⟩ := X
  obtain ⟨cc, own, y, nL, ret, d⟩ := M
  intro C H locs la hP hS hl
  have kk := kk C H locs la hP hS hl
  obtain ⟨hx, hb, hr, hlk, hml, hown, hts, hK, hD, hSX, hc1, hc2, hd1, hd2⟩ := C
  obtain ⟨Cn, T, N, ty0, ⟨g1, g2, g3, g4, g5⟩, g6, g7, g8, g9, g10⟩ := hf
  obtain ⟨q, hq, hw⟩ := zw_at (ad := ad) (ac := ac) μ (zk_mem hk (fun h => by cases h; omega))
  rw [zc_obj hk] at hw
  refine va_get hx hb hts g2 hown hK hP q hw g1 j g6 (hts _ g7) (fun _ h => h) (zf_get g8) hd ?_
  exact kk

theorem V_getz {X : ZX} {M : MD} {pc : Nat} {ls st : List AV} {μ : Mem} {k c j idx r : Nat} (hd : decode M.1 pc = .ok (.getfield idx, 3)) (hf : FL M.2.1 idx c j 2) (hk : zk k = .inl c)  (kk : V X M (pc + 3) ls (vi (μ k j) :: st) μ) : V X M pc ls (vr k :: st) μ := by
  obtain ⟨⟨l, dC, dI, ad, ac, sK, sV⟩, p, e, R, s, m, args, below, meth, c, A, cells, slots, Fin⟩ := X
  obtain ⟨cc, own, y, nL, ret, d⟩ := M
  intro C H locs la hP hS hl
  have kk := kk C H locs la hP hS hl
  obtain ⟨hx, hb, hr, hlk, hml, hown, hts, hK, hD, hSX, hc1, hc2, hd1, hd2⟩ := C
  obtain ⟨Cn, T, N, ty0, ⟨g1, g2, g3, g4, g5⟩, g6, g7, g8, g9, g10⟩ := hf
  obtain ⟨q, hq, hw⟩ := zw_at (ad := ad) (ac := ac) μ (zk_mem hk (fun h => by cases h; omega))
  rw [zc_obj hk] at hw
  refine va_get hx hb hts g2 hown hK hP q hw g1 j g6 (hts _ g7) (fun _ h => h) (zf_get g8) hd ?_
  exact kk

theorem V_getr {X : ZX} {M : MD} {pc : Nat} {ls st : List AV} {μ : Mem} {k c j idx r : Nat} (hd : decode M.1 pc = .ok (.getfield idx, 3)) (hf : FL M.2.1 idx c j 3) (hk : zk k = .inl c) (hz : zr k j = r) (kk : V X M (pc + 3) ls (vr r :: st) μ) : V X M pc ls (vr k :: st) μ := by
  obtain ⟨⟨l, dC, dI, ad, ac, sK, sV⟩, p, e, R, s, m, args, below, meth, c, A, cells, slots, Fin⟩ := X
  obtain ⟨cc, own, y, nL, ret, d⟩ := M
  intro C H locs la hP hS hl
  have kk := kk C H locs la hP hS hl
  obtain ⟨hx, hb, hr, hlk, hml, hown, hts, hK, hD, hSX, hc1, hc2, hd1, hd2⟩ := C
  obtain ⟨Cn, T, N, ty0, ⟨g1, g2, g3, g4, g5⟩, g6, g7, g8, g9, g10⟩ := hf
  obtain ⟨q, hq, hw⟩ := zw_at (ad := ad) (ac := ac) μ (zk_mem hk (fun h => by cases h; omega))
  rw [zc_obj hk] at hw
  refine va_get hx hb hts g2 hown hK hP q hw g1 j g6 (hts _ g7) (fun _ h => h) (zf_get g8) hd ?_
  subst hz; exact kk

theorem V_puti {X : ZX} {M : MD} {pc : Nat} {ls st : List AV} {μ : Mem} {k c j idx : Nat} {x : Int} (hd : decode M.1 pc = .ok (.putfield idx, 3)) (hf : FL M.2.1 idx c j 0) (hk : zk k = .inl c)  (kk : V X M (pc + 3) ls st (mu μ k j x)) : V X M pc ls (vi x :: vr k :: st) μ := by
  obtain ⟨⟨l, dC, dI, ad, ac, sK, sV⟩, p, e, R, s, m, args, below, meth, c, A, cells, slots, Fin⟩ := X
  obtain ⟨cc, own, y, nL, ret, d⟩ := M
  intro C H locs la hP hS hl
  have kk := fun H1 locs1 h1 h2 => kk C H1 locs1 la h1 h2 hl
  obtain ⟨hx, hb, hr, hlk, hml, hown, hts, hK, hD, hSX, hc1, hc2, hd1, hd2⟩ := C
  obtain ⟨Cn, T, N, ty0, ⟨g1, g2, g3, g4, g5⟩, g6, g7, g8, g9, g10⟩ := hf
  obtain ⟨q, hq, hw⟩ := zw_at (ad := ad) (ac := ac) μ (zk_mem hk (fun h => by cases h; omega))
  rw [zc_obj hk] at hw
  refine va_put (v := .int (Int32.ofInt x)) hx hb hts g2 ty0 g3 g4 hown hK hP hD.va hS q hw g1 j g6 (hts _ g7) (fun _ h => h) (g9 (by decide)).1 (g9 (by decide)).2 rfl rfl (by simpa using (List.getElem?_eq_some_iff.mp g8).1) hd (fun H1 locs1 h1 _ h2 => ?_)
  refine kk H1 locs1 ?_ h2
  rw [mu_eq, ← zw_set (ad := ad) (ac := ac) _ hq, zc_obj hk, ← zf_set (r := μ k) g8 (fun b hb => if_neg hb)]
  have e : zv ad k (fun b => if b = j then x else μ k b) j 0 = .int (Int32.ofInt x) := by simp [zv]
  rw [e]
  exact h1

theorem V_putl {X : ZX} {M : MD} {pc : Nat} {ls st : List AV} {μ : Mem} {k c j idx : Nat} {x : Int} (hd : decode M.1 pc = .ok (.putfield idx, 3)) (hf : FL M.2.1 idx c j 1) (hk : zk k = .inl c)  (kk : V X M (pc + 3) ls st (mu μ k j x)) : V X M pc ls (vl x :: vr k :: st) μ := by
  obtain ⟨⟨l, dC, dI, ad, ac, sK, sV⟩, p, e, R, s, m, args, below, meth, c, A, cells, slots, Fin⟩ := X
  obtain ⟨cc, own, y, nL, ret, d⟩ := M
  intro C H locs la hP hS hl
  have kk := fun H1 locs1 h1 h2 => kk C H1 locs1 la h1 h2 hl
  obtain ⟨hx, hb, hr, hlk, hml, hown, hts, hK, hD, hSX, hc1, hc2, hd1, hd2⟩ := C
  obtain ⟨Cn, T, N, ty0, ⟨g1, g2, g3, g4, g5⟩, g6, g7, g8, g9, g10⟩ := hf
  obtain ⟨q, hq, hw⟩ := zw_at (ad := ad) (ac := ac) μ (zk_mem hk (fun h => by cases h; omega))
  rw [zc_obj hk] at hw
  refine va_put (v := .long (Int64.ofInt x)) hx hb hts g2 ty0 g3 g4 hown hK hP hD.va hS q hw g1 j g6 (hts _ g7) (fun _ h => h) (g9 (by decide)).1 (g9 (by decide)).2 rfl rfl (by simpa using (List.getElem?_eq_some_iff.mp g8).1) hd (fun H1 locs1 h1 _ h2 => ?_)
  refine kk H1 locs1 ?_ h2
  rw [mu_eq, ← zw_set (ad := ad) (ac := ac) _ hq, zc_obj hk, ← zf_set (r := μ k) g8 (fun b hb => if_neg hb)]
  have e : zv ad k (fun b => if b = j then x else μ k b) j 1 = .long (Int64.ofInt x) := by simp [zv]
  rw [e]
  exact h1

theorem V_putz {X : ZX} {M : MD} {pc : Nat} {ls st : List AV} {μ : Mem} {k c j idx : Nat} {x : Int} (hd : decode M.1 pc = .ok (.putfield idx, 3)) (hf : FL M.2.1 idx c j 2) (hk : zk k = .inl c) (hx01 : x = 0 ∨ x = 1) (kk : V X M (pc + 3) ls st (mu μ k j x)) : V X M pc ls (vi x :: vr k :: st) μ := by
  obtain ⟨⟨l, dC, dI, ad, ac, sK, sV⟩, p, e, R, s, m, args, below, meth, c, A, cells, slots, Fin⟩ := X
  obtain ⟨cc, own, y, nL, ret, d⟩ := M
  intro C H locs la hP hS hl
  have kk := fun H1 locs1 h1 h2 => kk C H1 locs1 la h1 h2 hl
  obtain ⟨hx, hb, hr, hlk, hml, hown, hts, hK, hD, hSX, hc1, hc2, hd1, hd2⟩ := C
  obtain ⟨Cn, T, N, ty0, ⟨g1, g2, g3, g4, g5⟩, g6, g7, g8, g9, g10⟩ := hf
  obtain ⟨q, hq, hw⟩ := zw_at (ad := ad) (ac := ac) μ (zk_mem hk (fun h => by cases h; omega))
  rw [zc_obj hk] at hw
  refine va_put (v := .int (Int32.ofInt x)) hx hb hts g2 ty0 g3 g4 hown hK hP hD.va hS q hw g1 j g6 (hts _ g7) (fun _ h => h) (g9 (by decide)).1 (g9 (by decide)).2 (by rcases hx01 with rfl | rfl <;> decide) (by rcases hx01 with rfl | rfl <;> decide) (by simpa using (List.getElem?_eq_some_iff.mp g8).1) hd (fun H1 locs1 h1 _ h2 => ?_)
  refine kk H1 locs1 ?_ h2
  rw [mu_eq, ← zw_set (ad := ad) (ac := ac) _ hq, zc_obj hk, ← zf_set (r := μ k) g8 (fun b hb => if_neg hb)]
  have e : zv ad k (fun b => if b = j then x else μ k b) j 2 = .int (Int32.ofInt x) := by simp [zv]
  rw [e]
  exact h1

theorem V_iald {X : ZX} {M : MD} {pc : Nat} {ls st : List AV} {μ : Mem} {k n : Nat} {i : Int} (hd : decode M.1 pc = .ok (.iaload, 1)) (hk : zk k = .inr (0, n)) (h0 : 0 ≤ i) (hn : i < n) (hm : n ≤ 1000000) (kk : V X M (pc + 1) ls (vi (μ k i.toNat) :: st) μ) : V X M pc ls (vi i :: vr k :: st) μ := by
  obtain ⟨⟨l, dC, dI, ad, ac, sK, sV⟩, p, e, R, s, m, args, below, meth, c, A, cells, slots, Fin⟩ := X
  obtain ⟨cc, own, y, nL, ret, d⟩ := M
  intro C H locs la hP hS hl
  have kk := kk C H locs la hP hS hl
  obtain ⟨hx, hb, hr, hlk, hml, hown, hts, hK, hD, hSX, hc1, hc2, hd1, hd2⟩ := C
  obtain ⟨q, hq, hw⟩ := zw_at (ad := ad) (ac := ac) μ (zk_mem hk (fun h => by cases h))
  rw [zc_arr hk (by decide)] at hw
  obtain ⟨j1, j2⟩ := zi_ix h0 hn hm
  refine va_iald (i := Int32.ofInt i) hx hb hK hP q 0 hw rfl j1 hd ?_
  rw [j2]
  exact kk

theorem V_zald {X : ZX} {M : MD} {pc : Nat} {ls st : List AV} {μ : Mem} {k n : Nat} {i : Int} (hd : decode M.1 pc = .ok (.baload, 1)) (hk : zk k = .inr (2, n)) (h0 : 0 ≤ i) (hn : i < n) (hm : n ≤ 1000000) (kk : V X M (pc + 1) ls (vi (μ k i.toNat) :: st) μ) : V X M pc ls (vi i :: vr k :: st) μ := by
  obtain ⟨⟨l, dC, dI, ad, ac, sK, sV⟩, p, e, R, s, m, args, below, meth, c, A, cells, slots, Fin⟩ := X
  obtain ⟨cc, own, y, nL, ret, d⟩ := M
  intro C H locs la hP hS hl
  have kk := kk C H locs la hP hS hl
  obtain ⟨hx, hb, hr, hlk, hml, hown, hts, hK, hD, hSX, hc1, hc2, hd1, hd2⟩ := C
  obtain ⟨q, hq, hw⟩ := zw_at (ad := ad) (ac := ac) μ (zk_mem hk (fun h => by cases h))
  rw [zc_arr hk (by decide)] at hw
  obtain ⟨j1, j2⟩ := zi_ix h0 hn hm
  refine va_zald (i := Int32.ofInt i) hx hb hK hP q 2 hw rfl j1 hd ?_
  rw [j2]
  exact kk

theorem V_lald {X : ZX} {M : MD} {pc : Nat} {ls st : List AV} {μ : Mem} {k n : Nat} {i : Int} (hd : decode M.1 pc = .ok (.laload, 1)) (hk : zk k = .inr (1, n)) (h0 : 0 ≤ i) (hn : i < n) (hm : n ≤ 1000000) (kk : V X M (pc + 1) ls (vl (μ k i.toNat) :: st) μ) : V X M pc ls (vi i :: vr k :: st) μ := by
  obtain ⟨⟨l, dC, dI, ad, ac, sK, sV⟩, p, e, R, s, m, args, below, meth, c, A, cells, slots, Fin⟩ := X
  obtain ⟨cc, own, y, nL, ret, d⟩ := M
  intro C H locs la hP hS hl
  have kk := kk C H locs la hP hS hl
  obtain ⟨hx, hb, hr, hlk, hml, hown, hts, hK, hD, hSX, hc1, hc2, hd1, hd2⟩ := C
  obtain ⟨q, hq, hw⟩ := zw_at (ad := ad) (ac := ac) μ (zk_mem hk (fun h => by cases h))
  rw [zc_arl hk] at hw
  obtain ⟨j1, j2⟩ := zi_ix h0 hn hm
  refine va_lald (i := Int32.ofInt i) hx hb hK hP q 1 hw rfl j1 hd ?_
  rw [j2]
  exact kk

theorem V_iast {X : ZX} {M : MD} {pc : Nat} {ls st : List AV} {μ : Mem} {k n : Nat} {i x : Int} (hd : decode M.1 pc = .ok (.iastore, 1)) (hk : zk k = .inr (0, n)) (h0 : 0 ≤ i) (hn : i < n) (hm : n ≤ 1000000)  (kk : V X M (pc + 1) ls st (mu μ k i.toNat x)) : V X M pc ls (vi x :: vi i :: vr k :: st) μ := by
  obtain ⟨⟨l, dC, dI, ad, ac, sK, sV⟩, p, e, R, s, m, args, below, meth, c, A, cells, slots, Fin⟩ := X
  obtain ⟨cc, own, y, nL, ret, d⟩ := M
  intro C H locs la hP hS hl
  have kk := fun H1 locs1 h1 h2 => kk C H1 locs1 la h1 h2 hl
  obtain ⟨hx, hb, hr, hlk, hml, hown, hts, hK, hD, hSX, hc1, hc2, hd1, hd2⟩ := C
  obtain ⟨q, hq, hw⟩ := zw_at (ad := ad) (ac := ac) μ (zk_mem hk (fun h => by cases h))
  rw [zc_arr hk (by decide)] at hw
  obtain ⟨j1, j2⟩ := zi_ix h0 hn hm
  refine va_iast (i := Int32.ofInt i) hx hb hK hP hD.va hS q 0 hw rfl j1 hd (fun H1 locs1 h1 _ h2 => ?_)
  refine kk H1 locs1 ?_ h2
  rw [mu_eq, ← zw_set (ad := ad) (ac := ac) _ hq, zc_arr hk (by decide)]
  rw [j2] at h1
  have e : upd (fun j => Int32.ofInt (μ k j)) i.toNat (Int32.ofInt x) = fun j => Int32.ofInt (if j = i.toNat then x else μ k j) := by
    funext j
    by_cases hj : j = i.toNat <;> simp [upd, hj]
  rw [e] at h1
  exact h1

theorem V_zast {X : ZX} {M : MD} {pc : Nat} {ls st : List AV} {μ : Mem} {k n : Nat} {i x : Int} (hd : decode M.1 pc = .ok (.bastore, 1)) (hk : zk k = .inr (2, n)) (h0 : 0 ≤ i) (hn : i < n) (hm : n ≤ 1000000) (hx01 : x = 0 ∨ x = 1) (kk : V X M (pc + 1) ls st (mu μ k i.toNat x)) : V X M pc ls (vi x :: vi i :: vr k :: st) μ := by
  obtain ⟨⟨l, dC, dI, ad, ac, sK, sV⟩, p, e, R, s, m, args, below, meth, c, A, cells, slots, Fin⟩ := X
  obtain ⟨cc, own, y, nL, ret, d⟩ := M
  intro C H locs la hP hS hl
  have kk := fun H1 locs1 h1 h2 => kk C H1 locs1 la h1 h2 hl
  obtain ⟨hx, hb, hr, hlk, hml, hown, hts, hK, hD, hSX, hc1, hc2, hd1, hd2⟩ := C
  obtain ⟨q, hq, hw⟩ := zw_at (ad := ad) (ac := ac) μ (zk_mem hk (fun h => by cases h))
  rw [zc_arr hk (by decide)] at hw
  obtain ⟨j1, j2⟩ := zi_ix h0 hn hm
  refine va_zast (i := Int32.ofInt i) hx hb hK hP hD.va hS q 2 hw rfl j1 hd (fun H1 locs1 h1 _ h2 => ?_)
  refine kk H1 locs1 ?_ h2
  rw [mu_eq, ← zw_set (ad := ad) (ac := ac) _ hq, zc_arr hk (by decide)]
  rw [j2] at h1
  have e : upd (fun j => Int32.ofInt (μ k j)) i.toNat (Int32.ofInt x) = fun j => Int32.ofInt (if j = i.toNat then x else μ k j) := by
    funext j
    by_cases hj : j = i.toNat <;> simp [upd, hj]
  have e2 : vp_nar .boolean (Int32.ofInt x) = Int32.ofInt x := by rcases hx01 with rfl | rfl <;> decide
  rw [e2, e] at h1
  exact h1

theorem V_last {X : ZX} {M : MD} {pc : Nat} {ls st : List AV} {μ : Mem} {k n : Nat} {i x : Int} (hd : decode M.1 pc = .ok (.lastore, 1)) (hk : zk k = .inr (1, n)) (h0 : 0 ≤ i) (hn : i < n) (hm : n ≤ 1000000)  (kk : V X M (pc + 1) ls st (mu μ k i.toNat x)) : V X M pc ls (vl x :: vi i :: vr k :: st) μ := by
  obtain ⟨⟨l, dC, dI, ad, ac, sK, sV⟩, p, e, R, s, m, args, below, meth, c, A, cells, slots, Fin⟩ := X
  obtain ⟨cc, own, y, nL, ret, d⟩ := M
  intro C H locs la hP hS hl
  have kk := fun H1 locs1 h1 h2 => kk C H1 locs1 la h1 h2 hl
  obtain ⟨hx, hb, hr, hlk, hml, hown, hts, hK, hD, hSX, hc1, hc2, hd1, hd2⟩ := C
  obtain ⟨q, hq, hw⟩ := zw_at (ad := ad) (ac := ac) μ (zk_mem hk (fun h => by cases h))
  rw [zc_arl hk] at hw
  obtain ⟨j1, j2⟩ := zi_ix h0 hn hm
  refine va_last (i := Int32.ofInt i) hx hb hK hP hD.va hS q 1 hw rfl j1 hd (fun H1 locs1 h1 _ h2 => ?_)
  refine kk H1 locs1 ?_ h2
  rw [mu_eq, ← zw_set (ad := ad) (ac := ac) _ hq, zc_arl hk]
  rw [j2] at h1
  have e : vp_updL (fun j => Int64.ofInt (μ k j)) i.toNat (Int64.ofInt x) = fun j => Int64.ofInt (if j = i.toNat then x else μ k j) := by
    funext j
    by_cases hj : j = i.toNat <;> simp [vp_updL, hj]
  rw [e] at h1
  exact h1

theorem V_iret {X : ZX} {M : MD} {pc : Nat} {ls : List AV} {μ : Mem} {Q : AV → Mem → Prop} {x : Int} (hX : isM X Q) (hd : decode M.1 pc = .ok (.ireturn, 1)) (hrt : M.2.2.2.2.1 = some .int) (hq : Q (vi x) μ) : V X M pc ls ([vi x]) μ := by
  obtain ⟨⟨l, dC, dI, ad, ac, sK, sV⟩, p, e, R, s, m, args, below, meth, c, A, cells, slots, Fin⟩ := X
  obtain ⟨cc, own, y, nL, ret, d⟩ := M
  intro C H locs la hP hS hl
  obtain ⟨hx, hb, hr, hlk, hml, hown, hts, hK, hD, hSX, hc1, hc2, hd1, hd2⟩ := C
  obtain ⟨rfl, rfl, rfl, rfl⟩ := hX
  exact W.iret (v := Int32.ofInt x) hx hb (hr.trans hrt) (fun t ht hW => ⟨⟨vi x, μ, rfl, hq, by rw [ht]; exact hP⟩, hS.F ht⟩) hS.2.2 hd (hlocks := hlk)

theorem V_zret {X : ZX} {M : MD} {pc : Nat} {ls : List AV} {μ : Mem} {Q : AV → Mem → Prop} {x : Int} (hX : isM X Q) (hd : decode M.1 pc = .ok (.ireturn, 1)) (hrt : M.2.2.2.2.1 = some .boolean) (hx01 : x = 0 ∨ x = 1) (hq : Q (vi x) μ) : V X M pc ls ([vi x]) μ := by
  obtain ⟨⟨l, dC, dI, ad, ac, sK, sV⟩, p, e, R, s, m, args, below, meth, c, A, cells, slots, Fin⟩ := X
  obtain ⟨cc, own, y, nL, ret, d⟩ := M
  intro C H locs la hP hS hl
  obtain ⟨hx, hb, hr, hlk, hml, hown, hts, hK, hD, hSX, hc1, hc2, hd1, hd2⟩ := C
  obtain ⟨rfl, rfl, rfl, rfl⟩ := hX
  exact W.zret (v := Int32.ofInt x) hx hb (hr.trans hrt) (by rcases hx01 with rfl | rfl <;> decide) (fun t ht hW => ⟨⟨vi x, μ, rfl, hq, by rw [ht]; exact hP⟩, hS.F ht⟩) hS.2.2 hd (hlocks := hlk)

theorem V_lret {X : ZX} {M : MD} {pc : Nat} {ls : List AV} {μ : Mem} {Q : AV → Mem → Prop} {x : Int} (hX : isM X Q) (hd : decode M.1 pc = .ok (.lreturn, 1)) (hrt : M.2.2.2.2.1 = some .long) (hq : Q (vl x) μ) : V X M pc ls ([vl x]) μ := by
  obtain ⟨⟨l, dC, dI, ad, ac, sK, sV⟩, p, e, R, s, m, args, below, meth, c, A, cells, slots, Fin⟩ := X
  obtain ⟨cc, own, y, nL, ret, d⟩ := M
  intro C H locs la hP hS hl
  obtain ⟨hx, hb, hr, hlk, hml, hown, hts, hK, hD, hSX, hc1, hc2, hd1, hd2⟩ := C
  obtain ⟨rfl, rfl, rfl, rfl⟩ := hX
  exact W.lret (v := Int64.ofInt x) hx hb (hr.trans hrt) (fun t ht hW => ⟨⟨vl x, μ, rfl, hq, by rw [ht]; exact hP⟩, hS.F ht⟩) hS.2.2 hd (hlocks := hlk)

theorem V_vret {X : ZX} {M : MD} {pc : Nat} {ls : List AV} {μ : Mem} {Q : AV → Mem → Prop} {x : Int} (hX : isM X Q) (hd : decode M.1 pc = .ok (.return_, 1)) (hrt : M.2.2.2.2.1 = none) (hq : Q (un) μ) : V X M pc ls ([]) μ := by
  obtain ⟨⟨l, dC, dI, ad, ac, sK, sV⟩, p, e, R, s, m, args, below, meth, c, A, cells, slots, Fin⟩ := X
  obtain ⟨cc, own, y, nL, ret, d⟩ := M
  intro C H locs la hP hS hl
  obtain ⟨hx, hb, hr, hlk, hml, hown, hts, hK, hD, hSX, hc1, hc2, hd1, hd2⟩ := C
  obtain ⟨rfl, rfl, rfl, rfl⟩ := hX
  exact W.vret hx hb (hr.trans hrt) (fun t ht hW => ⟨⟨un, μ, rfl, hq, by rw [ht]; exact hP⟩, hS.F ht⟩) hS.2.2 hd (hlocks := hlk)

theorem V_aret {X : ZX} {M : MD} {pc : Nat} {ls : List AV} {μ : Mem} {Q : AV → Mem → Prop} {k : Nat} {n : String} (hX : isM X Q) (hd : decode M.1 pc = .ok (.areturn, 1)) (hrt : M.2.2.2.2.1 = some (.object n)) (hq : Q (vr k) μ) : V X M pc ls [vr k] μ := by
  obtain ⟨⟨l, dC, dI, ad, ac, sK, sV⟩, p, e, R, s, m, args, below, meth, c, A, cells, slots, Fin⟩ := X
  obtain ⟨cc, own, y, nL, ret, d⟩ := M
  intro C H locs la hP hS hl
  obtain ⟨hx, hb, hr, hlk, hml, hown, hts, hK, hD, hSX, hc1, hc2, hd1, hd2⟩ := C
  obtain ⟨rfl, rfl, rfl, rfl⟩ := hX
  exact W.aret (v := .ref (ad k)) hx hb (hr.trans hrt) (Or.inl ⟨n, rfl⟩) (Or.inr ⟨_, rfl⟩) (fun t ht hW => ⟨⟨vr k, μ, rfl, hq, by rw [ht]; exact hP⟩, hS.F ht⟩) hS.2.2 hd (hlocks := hlk)

def es : List AV → List AV
  | [] => []
  | v :: t => if isL v then v :: un :: es t else v :: es t
theorem es_args (ad sK : Nat → Nat) : ∀ (As : List AV) (i n : Nat), (∀ v ∈ As, isU v = false) → lcl ad sK i (es As ++ List.replicate n un) = lv_args i (As.map (cv ad sK)) := by
  intro As
  induction As with
  | nil =>
    intro i n _
    have : ∀ (n i : Nat), lcl ad sK i (List.replicate n un) = [] := by
      intro n
      induction n with
      | zero => intro i; rfl
      | succ n ih => intro i; rw [List.replicate_succ]; simp [lcl, isU, ih]
    simpa [es, lv_args] using this n i
  | cons v t ih =>
    intro i n h
    have hv := h v List.mem_cons_self
    have ht := fun w hw => h w (List.mem_cons_of_mem _ hw)
    cases hL : isL v with
    | false =>
      simp only [es, hL, List.cons_append, lcl, hv, List.map_cons, lv_args, cv_cat]
      simp [lcl, hv, ih _ n ht]
    | true =>
      simp only [es, hL, List.cons_append, lcl, hv, List.map_cons, lv_args, cv_cat]
      have hU : isU un = true := rfl
      simp [lcl, hv, hU, ih _ n ht]
theorem es_len (ad sK : Nat → Nat) (As : List AV) : (lg_sl (As.map (cv ad sK))).length = (es As).length := by
  induction As with
  | nil => rfl
  | cons v t ih =>
    simp only [lg_sl, List.map_cons, List.flatMap_cons, List.length_append] at ih ⊢
    rw [ih]
    cases hL : isL v with
    | false => simp [es, cv_cat, hL]; omega
    | true => simp [es, cv_cat, hL]; omega
theorem SP_intro {M : MD} {As ls : List AV} {μ : Mem} {Q : AV → Mem → Prop} (hy : plainName M.2.2.1.cls = true) (ho : M.2.2.1.cls = M.2.1) (hu : As.all (fun v => !isU v) = true) (hn : (es As).length ≤ M.2.2.2.1) (hls : es As ++ List.replicate (M.2.2.2.1 - (es As).length) un = ls)
    (h : ∀ X, isM X Q → V X M 0 ls [] μ) : SP M As μ Q := by
  obtain ⟨cc, own, y, nL, ret, d⟩ := M
  intro l dC dI ad ac sK sV
  refine Met.ofW (cc := cc) (maxL := nL) (ret := ret) hy rfl ?_
  intro p e s m args below meth c s₁ B hml hv
  obtain ⟨rfl, hP, hK, hD, hSX⟩ := hv
  have hts := atoms_spec (ws := Cond.code y cc nL ret :: TB) B.pre
  have hown : s.vm.findClass own = some m.cls := by rw [← show y.cls = own from ho]; exact findClass_of_methodNamed B.named
  have hl := lv_entry (As.map (cv ad sK)) (n := nL) (by rw [es_len]; exact hn)
  rw [lg_entry_eq]
  refine h ⟨⟨l, dC, dI, ad, ac, sK, sV⟩, p, e, zrm d, s, m, _, below, meth, c, wA ad, 0, 0, _⟩ ⟨rfl, rfl, rfl, rfl⟩ ⟨B.exec, B.bytes, B.returns, B.notSynchronized, hml, hown, fun w hw => hts w (List.mem_cons_of_mem _ hw), hK, hD, hSX, Nat.zero_le _, Nat.zero_le _, Nat.le_refl _, Nat.le_refl _⟩ s.heap [] _ hP va_S.rf ?_
  rw [← hls, es_args ad sK As 0 _ (fun v hv => by have := List.all_eq_true.mp hu v hv; simpa using this)]
  exact hl
/-- a call's words: the link, the method, its class -/
def CV (own : String) (idx : Nat) (Y : MD) (c n : Nat) : Prop := (Cond.methodLink own idx Y.2.2.1 ∈ TB ∧ Cond.instanceMethod Y.2.2.1 ∈ TB ∧ Cond.selects Y.2.2.1.cls Y.2.2.1 Y.2.2.1 ∈ TB ∧ Cond.initialized Y.2.2.1.cls ∈ TB ∧ Cond.code Y.2.2.1 Y.1 Y.2.2.2.1 Y.2.2.2.2.1 ∈ TB) ∧ (∃ T N, vwCl[c]? = some (Y.2.2.1.cls, T, N)) ∧
  (Y.2.2.1.cls ≠ "java/lang/invoke/MethodHandle" ∧ Y.2.2.1.cls ≠ "java/lang/invoke/VarHandle" ∧ (parseMethodDescriptor Y.2.2.1.desc).map (fun d => d.parameters.length) = some n) ∧ Y.2.2.2.1 ≤ 45 ∧ c < 99
def CS (own : String) (idx : Nat) (Y : MD) (n : Nat) : Prop := (Cond.methodLink own idx Y.2.2.1 ∈ TB ∧ Cond.static Y.2.2.1 ∈ TB ∧ Cond.initialized Y.2.2.1.cls ∈ TB ∧ Cond.code Y.2.2.1 Y.1 Y.2.2.2.1 Y.2.2.2.2.1 ∈ TB) ∧
  (Y.2.2.1.cls ≠ "java/lang/invoke/MethodHandle" ∧ Y.2.2.1.cls ≠ "java/lang/invoke/VarHandle" ∧ (parseMethodDescriptor Y.2.2.1.desc).map (fun d => d.parameters.length) = some n) ∧ Y.2.2.2.1 ≤ 45
theorem tb_in {Y : MD} (h : Cond.code Y.2.2.1 Y.1 Y.2.2.2.1 Y.2.2.2.2.1 ∈ TB) : GoodIn TB (Cond.code Y.2.2.1 Y.1 Y.2.2.2.1 Y.2.2.2.2.1 :: TB) := fun w hw => by
  have hm : w ∈ TB := by rcases List.mem_cons.mp hw with rfl | h2; exact h; exact h2
  exact ⟨hm, tb_good w hm⟩
theorem map_cat (ad sK : Nat → Nat) (st : List AV) : ((st.map (cv ad sK)).map fun v => v.category).sum = (st.map (fun v => if isL v then 2 else 1)).sum := by
  induction st with
  | nil => rfl
  | cons a t ih => simp only [List.map_cons, List.sum_cons, cv_cat, ih]
def pv (v : AV) (st : List AV) : List AV := if isU v then st else v :: st
theorem ov_list (ad sK : Nat → Nat) (v : AV) (st : List AV) : (ov ad sK v).toList ++ st.map (cv ad sK) = (pv v st).map (cv ad sK) := by
  rcases v with x | x | x | x | x <;> rfl
theorem wA_sub {A : Nat → Prop} {ad : Nat → Nat} (h : zD A ad) : ∀ q, wA ad q → A q := fun q ⟨k, hk, e⟩ => e ▸ h.2 k hk
theorem Wd.blind {G : ZG} {μ : Mem} {av : Array Value} : FrameBlind (fun v U => v = av ∧ Wd G μ U) := by
  obtain ⟨l, dC, dI, ad, ac, sK, sV⟩ := G
  intro a U g mk h
  obtain ⟨h1, h2, h3, h4, h5⟩ := h
  exact ⟨h1, h2, va_K.moved (u := U) (U := U.calling g mk a) (Vm.Alike.refl U.vm) h3, h4, SX.same (u := U) (U := U.calling g mk a) rfl rfl h5⟩
theorem V_behind {X : ZX} {M : MD} {pc : Nat} {ls st stA : List AV} {Qc : AV → Mem → Prop} (kk : ∀ v μ', Qc v μ' → V X M (pc + 3) ls (pv v st) μ') :
    match X, M with
    | ⟨⟨l, dC, dI, ad, ac, sK, sV⟩, p, e, R, s, m, args, below, meth, c, A, cells, slots, Fin⟩, ⟨cc, own, y, nL, ret, d⟩ =>
      CX ⟨⟨l, dC, dI, ad, ac, sK, sV⟩, p, e, R, s, m, args, below, meth, c, A, cells, slots, Fin⟩ ⟨cc, own, y, nL, ret, d⟩ → ∀ (H : Heap) (locs : List Loc) (la : Array Slot) (a : Array Value), va_S A s.heap H locs → lv_has la nL (lcl ad sK 0 ls) →
      va_Run p l e R s m args below meth c H locs cells slots 0 0 (F0 m pc la (stA.map (cv ad sK))) (st.map (cv ad sK)) (Qe ⟨l, dC, dI, ad, ac, sK, sV⟩ Qc a) (wA ad) →
      W p l e R s m args below meth c H locs cells slots Fin (F0 m pc la (stA.map (cv ad sK))) := by

  obtain ⟨⟨l, dC, dI, ad, ac, sK, sV⟩, p, e, R, s, m, args, below, meth, c, A, cells, slots, Fin⟩ := X
  obtain ⟨cc, own, y, nL, ret, d⟩ := M
  intro C H locs la a hS hl hr
  have hsub := wA_sub C.2.2.2.2.2.2.2.2.1
  intro T hT X
  obtain ⟨v, st₀, t, T', L, h0, X', hL, e1, e2, ⟨⟨r, μ', hv, hq, hP'⟩, hz, hk⟩, stp⟩ := hr T hT X
  cases hv
  rw [h0] at hz hk
  have kk := kk r μ' hq C T'.heap (locs ++ L) la (by rw [e1]; exact hP')
    ⟨Nat.le_trans hS.1 (by rw [e1]; exact hz), fun q h1 h2 => by rw [e1, hk q (Nat.lt_of_lt_of_le h1 hS.1) (fun z => h2 (hsub q z))]; exact hS.2.1 q h1 h2, fun q hq => by
      rcases List.mem_append.mp hq with h | h
      · exact hS.2.2 q h
      · exact hsub _ (hL q h)⟩ hl
  obtain ⟨t2, a1, b1⟩ := kk T' rfl X'
  refine ⟨t2, stp t2 ?_, b1⟩
  have e3 := ov_list ad sK r st
  show Steps p.tables e below (T'.setTop (F0 m (pc + 3) la ((ov ad sK r).toList ++ st.map (cv ad sK)))) t2
  rw [e3]
  exact a1

theorem V_callV {X : ZX} {M : MD} {pc : Nat} {ls st : List AV} {μ : Mem} {k cN idx : Nat} {As : List AV} {Y : MD} {Qc : AV → Mem → Prop} (hd : decode M.1 pc = .ok (.invokevirtual idx, 3)) (hc : CV M.2.1 idx Y cN As.length) (hk : zk k = .inl cN) (hdd : Y.2.2.2.2.2 < M.2.2.2.2.2) (hst : (st.map (fun v => if isL v then 2 else 1)).sum ≤ 8) (sp : SP Y (vr k :: As) μ Qc) (kk : ∀ v μ', Qc v μ' → V X M (pc + 3) ls (pv v st) μ') : V X M pc ls (As.reverse ++ vr k :: st) μ := by
  obtain ⟨⟨l, dC, dI, ad, ac, sK, sV⟩, p, e, R, s, m, args, below, meth, c, A, cells, slots, Fin⟩ := X
  obtain ⟨cc, own, y, nL, ret, d⟩ := M
  intro C H locs la hP hS hl
  refine V_behind (stA := As.reverse ++ vr k :: st) kk C H locs la ((vr k :: As).map (cv ad sK)).toArray hS hl ?_
  obtain ⟨hx, hb, hr, hlk, hml, hown, hts, hK, hD, hSX, hc1, hc2, hd1, hd2⟩ := C
  obtain ⟨ccY, ownY, yY, nLY, retY, dY⟩ := Y
  obtain ⟨⟨c1, c2, c3, c4, c5⟩, ⟨T, N, c6⟩, c7, c8, c9⟩ := hc
  obtain ⟨q, hq, hw⟩ := zw_at (ad := ad) (ac := ac) μ (zk_mem hk (fun h => by cases h; omega))
  rw [zc_obj hk] at hw
  dsimp only at hdd c8
  refine va_runV (As := As.map (cv ad sK)) (rest := st.map (cv ad sK)) (b := ad k) (C := yY.cls) (n := As.length) (ws := Cond.code yY ccY nLY retY :: TB) (rm := zrm dY) (bytes := ccY) (maxL := nLY) (ret := retY) (Ts := TB) (own := own) ⟨hx, hb, hml, hown, hts⟩ (sp l dC dI ad ac sK sV)
    (cwV As.length hts (fun w hw => ?_) rfl rfl rfl ⟨rfl, c7⟩ ⟨?_, ?_⟩) ⟨Wd.blind, va_recv hK hP c6 hw, fun U hU hW => ⟨rfl, ?_, va_K.moved hW.alike hK, ⟨hD.1, fun k hk => ⟨k, hk, rfl⟩⟩, hSX.to hS hU hW (wA_sub hD)⟩⟩ rfl (by simp) hl.1 (by simp; rfl) (lv_room (by rw [map_cat]; exact hst)) hd ⟨hc1, hc2⟩
  · rcases List.mem_append.mp hw with h | h
    · have : w ∈ TB := by
        rcases List.mem_cons.mp h with rfl | h
        · exact c1
        rcases List.mem_cons.mp h with rfl | h
        · exact c2
        rcases List.mem_cons.mp h with rfl | h
        · exact c3
        rcases List.mem_cons.mp h with rfl | h
        · exact c4
        · cases h
      exact ⟨this, tb_good w this⟩
    · exact tb_in (Y := ⟨ccY, ownY, yY, nLY, retY, dY⟩) c5 w h
  · show dY + 1 ≤ R.frames
    omega
  · show 8 + (nLY + 11) + 64 * dY ≤ R.locals
    omega
  · rw [hU]; exact hP

theorem V_callS {X : ZX} {M : MD} {pc : Nat} {ls st : List AV} {μ : Mem} {idx : Nat} {As : List AV} {Y : MD} {Qc : AV → Mem → Prop} (hd : decode M.1 pc = .ok (.invokestatic idx, 3)) (hc : CS M.2.1 idx Y As.length) (hdd : Y.2.2.2.2.2 < M.2.2.2.2.2) (hst : (st.map (fun v => if isL v then 2 else 1)).sum ≤ 8) (sp : SP Y As μ Qc) (kk : ∀ v μ', Qc v μ' → V X M (pc + 3) ls (pv v st) μ') : V X M pc ls (As.reverse ++ st) μ := by
  obtain ⟨⟨l, dC, dI, ad, ac, sK, sV⟩, p, e, R, s, m, args, below, meth, c, A, cells, slots, Fin⟩ := X
  obtain ⟨cc, own, y, nL, ret, d⟩ := M
  intro C H locs la hP hS hl
  refine V_behind (stA := As.reverse ++ st) kk C H locs la (As.map (cv ad sK)).toArray hS hl ?_
  obtain ⟨hx, hb, hr, hlk, hml, hown, hts, hK, hD, hSX, hc1, hc2, hd1, hd2⟩ := C
  obtain ⟨ccY, ownY, yY, nLY, retY, dY⟩ := Y
  obtain ⟨⟨c1, c2, c4, c5⟩, c7, c8⟩ := hc
  dsimp only at hdd c8
  refine va_runS (As := As.map (cv ad sK)) (rest := st.map (cv ad sK)) (n := As.length) (ws := Cond.code yY ccY nLY retY :: TB) (rm := zrm dY) (bytes := ccY) (maxL := nLY) (ret := retY) (Ts := TB) (own := own) ⟨hx, hb, hml, hown, hts⟩ (sp l dC dI ad ac sK sV)
    ⟨callB_of As.length hts (tb_in (Y := ⟨ccY, ownY, yY, nLY, retY, dY⟩) c5) rfl rfl rfl (hts _ c4) (hts _ c1) c7 ⟨?_, ?_⟩, hts _ c2⟩ ⟨Wd.blind, fun U hU hW => ⟨rfl, ?_, va_K.moved hW.alike hK, ⟨hD.1, fun k hk => ⟨k, hk, rfl⟩⟩, hSX.to hS hU hW (wA_sub hD)⟩⟩ rfl (by simp) hl.1 (by simp) (lv_room (by rw [map_cat]; exact hst)) hd ⟨hc1, hc2⟩
  · show dY + 1 ≤ R.frames
    omega
  · show 8 + (nLY + 11) + 64 * dY ≤ R.locals
    omega
  · rw [hU]; exact hP

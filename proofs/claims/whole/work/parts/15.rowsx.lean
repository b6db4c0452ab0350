theorem V_istore_15 {X : ZX} {M : MD} {pc : Nat} {st : List AV} {μ : Mem} {a0 a1 a2 a3 a4 a5 a6 a7 a8 a9 a10 a11 a12 a13 a14 old : AV} {t : List AV} {x : Int} (hd : decode M.1 pc = .ok (.istore 15, 2)) (hn : 15 < M.2.2.2.1) (hp : isL a14 = false) (k : V X M (pc + 2) (a0 :: a1 :: a2 :: a3 :: a4 :: a5 :: a6 :: a7 :: a8 :: a9 :: a10 :: a11 :: a12 :: a13 :: a14 :: vi (x) :: t) st μ) : V X M pc (a0 :: a1 :: a2 :: a3 :: a4 :: a5 :: a6 :: a7 :: a8 :: a9 :: a10 :: a11 :: a12 :: a13 :: a14 :: old :: t) (vi (x) :: st) μ := by
  obtain ⟨⟨l, dC, dI, ad, ac, sK, sV⟩, p, e, R, s, m, args, below, meth, c, A, cells, slots, Fin⟩ := X
  obtain ⟨cc, own, y, nL, ret, d⟩ := M
  intro C H locs la hP hS hl
  have k := fun la2 h2 => k C H locs la2 hP hS h2
  obtain ⟨hx, hb, hr, hlk, hml, hown, hts, hK, hD, hSX, hc1, hc2, hd1, hd2⟩ := C
  show W p l e R s m args below meth c H locs cells slots Fin (F0 m pc la (.int (Int32.ofInt (x)) :: st.map (cv ad sK)))
  refine lv_istore hx hb hd hl hn rfl (fun la2 h2 => ?_)
  exact k la2 (lcl_set1 (ls := a0 :: a1 :: a2 :: a3 :: a4 :: a5 :: a6 :: a7 :: a8 :: a9 :: a10 :: a11 :: a12 :: a13 :: a14 :: old :: t) (i := 15) (v := vi (x)) (by simp) (fun j w e h => by obtain rfl : j = 14 := (by omega); cases h; exact hp) h2)
theorem V_lstore_15 {X : ZX} {M : MD} {pc : Nat} {st : List AV} {μ : Mem} {a0 a1 a2 a3 a4 a5 a6 a7 a8 a9 a10 a11 a12 a13 a14 old old2 : AV} {t : List AV} {x : Int} (hd : decode M.1 pc = .ok (.lstore 15, 2)) (hn : 16 < M.2.2.2.1) (hp : isL a14 = false) (k : V X M (pc + 2) (a0 :: a1 :: a2 :: a3 :: a4 :: a5 :: a6 :: a7 :: a8 :: a9 :: a10 :: a11 :: a12 :: a13 :: a14 :: vl (x) :: un :: t) st μ) : V X M pc (a0 :: a1 :: a2 :: a3 :: a4 :: a5 :: a6 :: a7 :: a8 :: a9 :: a10 :: a11 :: a12 :: a13 :: a14 :: old :: old2 :: t) (vl (x) :: st) μ := by
  obtain ⟨⟨l, dC, dI, ad, ac, sK, sV⟩, p, e, R, s, m, args, below, meth, c, A, cells, slots, Fin⟩ := X
  obtain ⟨cc, own, y, nL, ret, d⟩ := M
  intro C H locs la hP hS hl
  have k := fun la2 h2 => k C H locs la2 hP hS h2
  obtain ⟨hx, hb, hr, hlk, hml, hown, hts, hK, hD, hSX, hc1, hc2, hd1, hd2⟩ := C
  show W p l e R s m args below meth c H locs cells slots Fin (F0 m pc la (.long (Int64.ofInt (x)) :: st.map (cv ad sK)))
  refine lv_lstore hx hb hd hl hn rfl (fun la2 h2 => ?_)
  exact k la2 (lcl_set2 (ls := a0 :: a1 :: a2 :: a3 :: a4 :: a5 :: a6 :: a7 :: a8 :: a9 :: a10 :: a11 :: a12 :: a13 :: a14 :: old :: old2 :: t) (i := 15) (v := vl (x)) (by simp) (fun j w e h => by obtain rfl : j = 14 := (by omega); cases h; exact hp) h2)
theorem V_istore_16 {X : ZX} {M : MD} {pc : Nat} {st : List AV} {μ : Mem} {a0 a1 a2 a3 a4 a5 a6 a7 a8 a9 a10 a11 a12 a13 a14 a15 old : AV} {t : List AV} {x : Int} (hd : decode M.1 pc = .ok (.istore 16, 2)) (hn : 16 < M.2.2.2.1) (hp : isL a15 = false) (k : V X M (pc + 2) (a0 :: a1 :: a2 :: a3 :: a4 :: a5 :: a6 :: a7 :: a8 :: a9 :: a10 :: a11 :: a12 :: a13 :: a14 :: a15 :: vi (x) :: t) st μ) : V X M pc (a0 :: a1 :: a2 :: a3 :: a4 :: a5 :: a6 :: a7 :: a8 :: a9 :: a10 :: a11 :: a12 :: a13 :: a14 :: a15 :: old :: t) (vi (x) :: st) μ := by
  obtain ⟨⟨l, dC, dI, ad, ac, sK, sV⟩, p, e, R, s, m, args, below, meth, c, A, cells, slots, Fin⟩ := X
  obtain ⟨cc, own, y, nL, ret, d⟩ := M
  intro C H locs la hP hS hl
  have k := fun la2 h2 => k C H locs la2 hP hS h2
  obtain ⟨hx, hb, hr, hlk, hml, hown, hts, hK, hD, hSX, hc1, hc2, hd1, hd2⟩ := C
  show W p l e R s m args below meth c H locs cells slots Fin (F0 m pc la (.int (Int32.ofInt (x)) :: st.map (cv ad sK)))
  refine lv_istore hx hb hd hl hn rfl (fun la2 h2 => ?_)
  exact k la2 (lcl_set1 (ls := a0 :: a1 :: a2 :: a3 :: a4 :: a5 :: a6 :: a7 :: a8 :: a9 :: a10 :: a11 :: a12 :: a13 :: a14 :: a15 :: old :: t) (i := 16) (v := vi (x)) (by simp) (fun j w e h => by obtain rfl : j = 15 := (by omega); cases h; exact hp) h2)
theorem V_lstore_16 {X : ZX} {M : MD} {pc : Nat} {st : List AV} {μ : Mem} {a0 a1 a2 a3 a4 a5 a6 a7 a8 a9 a10 a11 a12 a13 a14 a15 old old2 : AV} {t : List AV} {x : Int} (hd : decode M.1 pc = .ok (.lstore 16, 2)) (hn : 17 < M.2.2.2.1) (hp : isL a15 = false) (k : V X M (pc + 2) (a0 :: a1 :: a2 :: a3 :: a4 :: a5 :: a6 :: a7 :: a8 :: a9 :: a10 :: a11 :: a12 :: a13 :: a14 :: a15 :: vl (x) :: un :: t) st μ) : V X M pc (a0 :: a1 :: a2 :: a3 :: a4 :: a5 :: a6 :: a7 :: a8 :: a9 :: a10 :: a11 :: a12 :: a13 :: a14 :: a15 :: old :: old2 :: t) (vl (x) :: st) μ := by
  obtain ⟨⟨l, dC, dI, ad, ac, sK, sV⟩, p, e, R, s, m, args, below, meth, c, A, cells, slots, Fin⟩ := X
  obtain ⟨cc, own, y, nL, ret, d⟩ := M
  intro C H locs la hP hS hl
  have k := fun la2 h2 => k C H locs la2 hP hS h2
  obtain ⟨hx, hb, hr, hlk, hml, hown, hts, hK, hD, hSX, hc1, hc2, hd1, hd2⟩ := C
  show W p l e R s m args below meth c H locs cells slots Fin (F0 m pc la (.long (Int64.ofInt (x)) :: st.map (cv ad sK)))
  refine lv_lstore hx hb hd hl hn rfl (fun la2 h2 => ?_)
  exact k la2 (lcl_set2 (ls := a0 :: a1 :: a2 :: a3 :: a4 :: a5 :: a6 :: a7 :: a8 :: a9 :: a10 :: a11 :: a12 :: a13 :: a14 :: a15 :: old :: old2 :: t) (i := 16) (v := vl (x)) (by simp) (fun j w e h => by obtain rfl : j = 15 := (by omega); cases h; exact hp) h2)
theorem V_istore_17 {X : ZX} {M : MD} {pc : Nat} {st : List AV} {μ : Mem} {a0 a1 a2 a3 a4 a5 a6 a7 a8 a9 a10 a11 a12 a13 a14 a15 a16 old : AV} {t : List AV} {x : Int} (hd : decode M.1 pc = .ok (.istore 17, 2)) (hn : 17 < M.2.2.2.1) (hp : isL a16 = false) (k : V X M (pc + 2) (a0 :: a1 :: a2 :: a3 :: a4 :: a5 :: a6 :: a7 :: a8 :: a9 :: a10 :: a11 :: a12 :: a13 :: a14 :: a15 :: a16 :: vi (x) :: t) st μ) : V X M pc (a0 :: a1 :: a2 :: a3 :: a4 :: a5 :: a6 :: a7 :: a8 :: a9 :: a10 :: a11 :: a12 :: a13 :: a14 :: a15 :: a16 :: old :: t) (vi (x) :: st) μ := by
  obtain ⟨⟨l, dC, dI, ad, ac, sK, sV⟩, p, e, R, s, m, args, below, meth, c, A, cells, slots, Fin⟩ := X
  obtain ⟨cc, own, y, nL, ret, d⟩ := M
  intro C H locs la hP hS hl
  have k := fun la2 h2 => k C H locs la2 hP hS h2
  obtain ⟨hx, hb, hr, hlk, hml, hown, hts, hK, hD, hSX, hc1, hc2, hd1, hd2⟩ := C
  show W p l e R s m args below meth c H locs cells slots Fin (F0 m pc la (.int (Int32.ofInt (x)) :: st.map (cv ad sK)))
  refine lv_istore hx hb hd hl hn rfl (fun la2 h2 => ?_)
  exact k la2 (lcl_set1 (ls := a0 :: a1 :: a2 :: a3 :: a4 :: a5 :: a6 :: a7 :: a8 :: a9 :: a10 :: a11 :: a12 :: a13 :: a14 :: a15 :: a16 :: old :: t) (i := 17) (v := vi (x)) (by simp) (fun j w e h => by obtain rfl : j = 16 := (by omega); cases h; exact hp) h2)
theorem V_lstore_17 {X : ZX} {M : MD} {pc : Nat} {st : List AV} {μ : Mem} {a0 a1 a2 a3 a4 a5 a6 a7 a8 a9 a10 a11 a12 a13 a14 a15 a16 old old2 : AV} {t : List AV} {x : Int} (hd : decode M.1 pc = .ok (.lstore 17, 2)) (hn : 18 < M.2.2.2.1) (hp : isL a16 = false) (k : V X M (pc + 2) (a0 :: a1 :: a2 :: a3 :: a4 :: a5 :: a6 :: a7 :: a8 :: a9 :: a10 :: a11 :: a12 :: a13 :: a14 :: a15 :: a16 :: vl (x) :: un :: t) st μ) : V X M pc (a0 :: a1 :: a2 :: a3 :: a4 :: a5 :: a6 :: a7 :: a8 :: a9 :: a10 :: a11 :: a12 :: a13 :: a14 :: a15 :: a16 :: old :: old2 :: t) (vl (x) :: st) μ := by
  obtain ⟨⟨l, dC, dI, ad, ac, sK, sV⟩, p, e, R, s, m, args, below, meth, c, A, cells, slots, Fin⟩ := X
  obtain ⟨cc, own, y, nL, ret, d⟩ := M
  intro C H locs la hP hS hl
  have k := fun la2 h2 => k C H locs la2 hP hS h2
  obtain ⟨hx, hb, hr, hlk, hml, hown, hts, hK, hD, hSX, hc1, hc2, hd1, hd2⟩ := C
  show W p l e R s m args below meth c H locs cells slots Fin (F0 m pc la (.long (Int64.ofInt (x)) :: st.map (cv ad sK)))
  refine lv_lstore hx hb hd hl hn rfl (fun la2 h2 => ?_)
  exact k la2 (lcl_set2 (ls := a0 :: a1 :: a2 :: a3 :: a4 :: a5 :: a6 :: a7 :: a8 :: a9 :: a10 :: a11 :: a12 :: a13 :: a14 :: a15 :: a16 :: old :: old2 :: t) (i := 17) (v := vl (x)) (by simp) (fun j w e h => by obtain rfl : j = 16 := (by omega); cases h; exact hp) h2)
theorem V_istore_18 {X : ZX} {M : MD} {pc : Nat} {st : List AV} {μ : Mem} {a0 a1 a2 a3 a4 a5 a6 a7 a8 a9 a10 a11 a12 a13 a14 a15 a16 a17 old : AV} {t : List AV} {x : Int} (hd : decode M.1 pc = .ok (.istore 18, 2)) (hn : 18 < M.2.2.2.1) (hp : isL a17 = false) (k : V X M (pc + 2) (a0 :: a1 :: a2 :: a3 :: a4 :: a5 :: a6 :: a7 :: a8 :: a9 :: a10 :: a11 :: a12 :: a13 :: a14 :: a15 :: a16 :: a17 :: vi (x) :: t) st μ) : V X M pc (a0 :: a1 :: a2 :: a3 :: a4 :: a5 :: a6 :: a7 :: a8 :: a9 :: a10 :: a11 :: a12 :: a13 :: a14 :: a15 :: a16 :: a17 :: old :: t) (vi (x) :: st) μ := by
  obtain ⟨⟨l, dC, dI, ad, ac, sK, sV⟩, p, e, R, s, m, args, below, meth, c, A, cells, slots, Fin⟩ := X
  obtain ⟨cc, own, y, nL, ret, d⟩ := M
  intro C H locs la hP hS hl
  have k := fun la2 h2 => k C H locs la2 hP hS h2
  obtain ⟨hx, hb, hr, hlk, hml, hown, hts, hK, hD, hSX, hc1, hc2, hd1, hd2⟩ := C
  show W p l e R s m args below meth c H locs cells slots Fin (F0 m pc la (.int (Int32.ofInt (x)) :: st.map (cv ad sK)))
  refine lv_istore hx hb hd hl hn rfl (fun la2 h2 => ?_)
  exact k la2 (lcl_set1 (ls := a0 :: a1 :: a2 :: a3 :: a4 :: a5 :: a6 :: a7 :: a8 :: a9 :: a10 :: a11 :: a12 :: a13 :: a14 :: a15 :: a16 :: a17 :: old :: t) (i := 18) (v := vi (x)) (by simp) (fun j w e h => by obtain rfl : j = 17 := (by omega); cases h; exact hp) h2)
theorem V_lstore_18 {X : ZX} {M : MD} {pc : Nat} {st : List AV} {μ : Mem} {a0 a1 a2 a3 a4 a5 a6 a7 a8 a9 a10 a11 a12 a13 a14 a15 a16 a17 old old2 : AV} {t : List AV} {x : Int} (hd : decode M.1 pc = .ok (.lstore 18, 2)) (hn : 19 < M.2.2.2.1) (hp : isL a17 = false) (k : V X M (pc + 2) (a0 :: a1 :: a2 :: a3 :: a4 :: a5 :: a6 :: a7 :: a8 :: a9 :: a10 :: a11 :: a12 :: a13 :: a14 :: a15 :: a16 :: a17 :: vl (x) :: un :: t) st μ) : V X M pc (a0 :: a1 :: a2 :: a3 :: a4 :: a5 :: a6 :: a7 :: a8 :: a9 :: a10 :: a11 :: a12 :: a13 :: a14 :: a15 :: a16 :: a17 :: old :: old2 :: t) (vl (x) :: st) μ := by
  obtain ⟨⟨l, dC, dI, ad, ac, sK, sV⟩, p, e, R, s, m, args, below, meth, c, A, cells, slots, Fin⟩ := X
  obtain ⟨cc, own, y, nL, ret, d⟩ := M
  intro C H locs la hP hS hl
  have k := fun la2 h2 => k C H locs la2 hP hS h2
  obtain ⟨hx, hb, hr, hlk, hml, hown, hts, hK, hD, hSX, hc1, hc2, hd1, hd2⟩ := C
  show W p l e R s m args below meth c H locs cells slots Fin (F0 m pc la (.long (Int64.ofInt (x)) :: st.map (cv ad sK)))
  refine lv_lstore hx hb hd hl hn rfl (fun la2 h2 => ?_)
  exact k la2 (lcl_set2 (ls := a0 :: a1 :: a2 :: a3 :: a4 :: a5 :: a6 :: a7 :: a8 :: a9 :: a10 :: a11 :: a12 :: a13 :: a14 :: a15 :: a16 :: a17 :: old :: old2 :: t) (i := 18) (v := vl (x)) (by simp) (fun j w e h => by obtain rfl : j = 17 := (by omega); cases h; exact hp) h2)
theorem V_iinc_15 {X : ZX} {M : MD} {pc : Nat} {st : List AV} {μ : Mem} {a0 a1 a2 a3 a4 a5 a6 a7 a8 a9 a10 a11 a12 a13 a14 : AV} {t : List AV} {x n : Int} (hd : decode M.1 pc = .ok (.iinc 15 n, 3)) (hn : 15 < M.2.2.2.1) (hp : isL a14 = false) (k : V X M (pc + 3) (a0 :: a1 :: a2 :: a3 :: a4 :: a5 :: a6 :: a7 :: a8 :: a9 :: a10 :: a11 :: a12 :: a13 :: a14 :: vi (x + n) :: t) st μ) : V X M pc (a0 :: a1 :: a2 :: a3 :: a4 :: a5 :: a6 :: a7 :: a8 :: a9 :: a10 :: a11 :: a12 :: a13 :: a14 :: vi x :: t) st μ := by
  obtain ⟨⟨l, dC, dI, ad, ac, sK, sV⟩, p, e, R, s, m, args, below, meth, c, A, cells, slots, Fin⟩ := X
  obtain ⟨cc, own, y, nL, ret, d⟩ := M
  intro C H locs la hP hS hl
  have k := fun la2 h2 => k C H locs la2 hP hS h2
  obtain ⟨hx, hb, hr, hlk, hml, hown, hts, hK, hD, hSX, hc1, hc2, hd1, hd2⟩ := C
  show W p l e R s m args below meth c H locs cells slots Fin (F0 m pc la (st.map (cv ad sK)))
  obtain ⟨j, hj⟩ := List.getElem?_of_mem ((lcl_mem (a0 :: a1 :: a2 :: a3 :: a4 :: a5 :: a6 :: a7 :: a8 :: a9 :: a10 :: a11 :: a12 :: a13 :: a14 :: vi x :: t) 0).mpr ⟨15, vi x, rfl, rfl, rfl⟩ : (0 + 15, cv ad sK (vi x)) ∈ _)
  refine lv_iinc (v := Int32.ofInt (x + n)) hx hb hd hl (k := j) hj (zi_add x n) hn rfl (fun la2 h2 => ?_)
  exact k la2 (lcl_set1 (ls := a0 :: a1 :: a2 :: a3 :: a4 :: a5 :: a6 :: a7 :: a8 :: a9 :: a10 :: a11 :: a12 :: a13 :: a14 :: vi x :: t) (i := 15) (v := vi (x + n)) (by simp) (fun j w e h => by obtain rfl : j = 14 := (by omega); cases h; exact hp) h2)
theorem V_iinc_16 {X : ZX} {M : MD} {pc : Nat} {st : List AV} {μ : Mem} {a0 a1 a2 a3 a4 a5 a6 a7 a8 a9 a10 a11 a12 a13 a14 a15 : AV} {t : List AV} {x n : Int} (hd : decode M.1 pc = .ok (.iinc 16 n, 3)) (hn : 16 < M.2.2.2.1) (hp : isL a15 = false) (k : V X M (pc + 3) (a0 :: a1 :: a2 :: a3 :: a4 :: a5 :: a6 :: a7 :: a8 :: a9 :: a10 :: a11 :: a12 :: a13 :: a14 :: a15 :: vi (x + n) :: t) st μ) : V X M pc (a0 :: a1 :: a2 :: a3 :: a4 :: a5 :: a6 :: a7 :: a8 :: a9 :: a10 :: a11 :: a12 :: a13 :: a14 :: a15 :: vi x :: t) st μ := by
  obtain ⟨⟨l, dC, dI, ad, ac, sK, sV⟩, p, e, R, s, m, args, below, meth, c, A, cells, slots, Fin⟩ := X
  obtain ⟨cc, own, y, nL, ret, d⟩ := M
  intro C H locs la hP hS hl
  have k := fun la2 h2 => k C H locs la2 hP hS h2
  obtain ⟨hx, hb, hr, hlk, hml, hown, hts, hK, hD, hSX, hc1, hc2, hd1, hd2⟩ := C
  show W p l e R s m args below meth c H locs cells slots Fin (F0 m pc la (st.map (cv ad sK)))
  obtain ⟨j, hj⟩ := List.getElem?_of_mem ((lcl_mem (a0 :: a1 :: a2 :: a3 :: a4 :: a5 :: a6 :: a7 :: a8 :: a9 :: a10 :: a11 :: a12 :: a13 :: a14 :: a15 :: vi x :: t) 0).mpr ⟨16, vi x, rfl, rfl, rfl⟩ : (0 + 16, cv ad sK (vi x)) ∈ _)
  refine lv_iinc (v := Int32.ofInt (x + n)) hx hb hd hl (k := j) hj (zi_add x n) hn rfl (fun la2 h2 => ?_)
  exact k la2 (lcl_set1 (ls := a0 :: a1 :: a2 :: a3 :: a4 :: a5 :: a6 :: a7 :: a8 :: a9 :: a10 :: a11 :: a12 :: a13 :: a14 :: a15 :: vi x :: t) (i := 16) (v := vi (x + n)) (by simp) (fun j w e h => by obtain rfl : j = 15 := (by omega); cases h; exact hp) h2)
theorem V_iinc_17 {X : ZX} {M : MD} {pc : Nat} {st : List AV} {μ : Mem} {a0 a1 a2 a3 a4 a5 a6 a7 a8 a9 a10 a11 a12 a13 a14 a15 a16 : AV} {t : List AV} {x n : Int} (hd : decode M.1 pc = .ok (.iinc 17 n, 3)) (hn : 17 < M.2.2.2.1) (hp : isL a16 = false) (k : V X M (pc + 3) (a0 :: a1 :: a2 :: a3 :: a4 :: a5 :: a6 :: a7 :: a8 :: a9 :: a10 :: a11 :: a12 :: a13 :: a14 :: a15 :: a16 :: vi (x + n) :: t) st μ) : V X M pc (a0 :: a1 :: a2 :: a3 :: a4 :: a5 :: a6 :: a7 :: a8 :: a9 :: a10 :: a11 :: a12 :: a13 :: a14 :: a15 :: a16 :: vi x :: t) st μ := by
  obtain ⟨⟨l, dC, dI, ad, ac, sK, sV⟩, p, e, R, s, m, args, below, meth, c, A, cells, slots, Fin⟩ := X
  obtain ⟨cc, own, y, nL, ret, d⟩ := M
  intro C H locs la hP hS hl
  have k := fun la2 h2 => k C H locs la2 hP hS h2
  obtain ⟨hx, hb, hr, hlk, hml, hown, hts, hK, hD, hSX, hc1, hc2, hd1, hd2⟩ := C
  show W p l e R s m args below meth c H locs cells slots Fin (F0 m pc la (st.map (cv ad sK)))
  obtain ⟨j, hj⟩ := List.getElem?_of_mem ((lcl_mem (a0 :: a1 :: a2 :: a3 :: a4 :: a5 :: a6 :: a7 :: a8 :: a9 :: a10 :: a11 :: a12 :: a13 :: a14 :: a15 :: a16 :: vi x :: t) 0).mpr ⟨17, vi x, rfl, rfl, rfl⟩ : (0 + 17, cv ad sK (vi x)) ∈ _)
  refine lv_iinc (v := Int32.ofInt (x + n)) hx hb hd hl (k := j) hj (zi_add x n) hn rfl (fun la2 h2 => ?_)
  exact k la2 (lcl_set1 (ls := a0 :: a1 :: a2 :: a3 :: a4 :: a5 :: a6 :: a7 :: a8 :: a9 :: a10 :: a11 :: a12 :: a13 :: a14 :: a15 :: a16 :: vi x :: t) (i := 17) (v := vi (x + n)) (by simp) (fun j w e h => by obtain rfl : j = 16 := (by omega); cases h; exact hp) h2)
theorem V_iinc_18 {X : ZX} {M : MD} {pc : Nat} {st : List AV} {μ : Mem} {a0 a1 a2 a3 a4 a5 a6 a7 a8 a9 a10 a11 a12 a13 a14 a15 a16 a17 : AV} {t : List AV} {x n : Int} (hd : decode M.1 pc = .ok (.iinc 18 n, 3)) (hn : 18 < M.2.2.2.1) (hp : isL a17 = false) (k : V X M (pc + 3) (a0 :: a1 :: a2 :: a3 :: a4 :: a5 :: a6 :: a7 :: a8 :: a9 :: a10 :: a11 :: a12 :: a13 :: a14 :: a15 :: a16 :: a17 :: vi (x + n) :: t) st μ) : V X M pc (a0 :: a1 :: a2 :: a3 :: a4 :: a5 :: a6 :: a7 :: a8 :: a9 :: a10 :: a11 :: a12 :: a13 :: a14 :: a15 :: a16 :: a17 :: vi x :: t) st μ := by
  obtain ⟨⟨l, dC, dI, ad, ac, sK, sV⟩, p, e, R, s, m, args, below, meth, c, A, cells, slots, Fin⟩ := X
  obtain ⟨cc, own, y, nL, ret, d⟩ := M
  intro C H locs la hP hS hl
  have k := fun la2 h2 => k C H locs la2 hP hS h2
  obtain ⟨hx, hb, hr, hlk, hml, hown, hts, hK, hD, hSX, hc1, hc2, hd1, hd2⟩ := C
  show W p l e R s m args below meth c H locs cells slots Fin (F0 m pc la (st.map (cv ad sK)))
  obtain ⟨j, hj⟩ := List.getElem?_of_mem ((lcl_mem (a0 :: a1 :: a2 :: a3 :: a4 :: a5 :: a6 :: a7 :: a8 :: a9 :: a10 :: a11 :: a12 :: a13 :: a14 :: a15 :: a16 :: a17 :: vi x :: t) 0).mpr ⟨18, vi x, rfl, rfl, rfl⟩ : (0 + 18, cv ad sK (vi x)) ∈ _)
  refine lv_iinc (v := Int32.ofInt (x + n)) hx hb hd hl (k := j) hj (zi_add x n) hn rfl (fun la2 h2 => ?_)
  exact k la2 (lcl_set1 (ls := a0 :: a1 :: a2 :: a3 :: a4 :: a5 :: a6 :: a7 :: a8 :: a9 :: a10 :: a11 :: a12 :: a13 :: a14 :: a15 :: a16 :: a17 :: vi x :: t) (i := 18) (v := vi (x + n)) (by simp) (fun j w e h => by obtain rfl : j = 17 := (by omega); cases h; exact hp) h2)

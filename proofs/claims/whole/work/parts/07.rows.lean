theorem zl_div {a b : Int} (ha : inL a) (hb : inL b) (h : inL (a.tdiv b)) : Int64.ofInt a / Int64.ofInt b = Int64.ofInt (a.tdiv b) := by
  rw [← Int64.toInt_inj, Int64.toInt_div, zl_to ha, zl_to hb, zl_to h]
  exact Int.bmod_eq_of_le (by have := h.1; omega) (by have := h.2; omega)
theorem V_iadd {X : ZX} {M : MD} {pc : Nat} {ls st : List AV} {μ : Mem} {a b : Int} (hd : decode M.1 pc = .ok (.iadd, 1))  (k : V X M (pc + 1) ls (vi (a + b) :: st) μ) : V X M pc ls (vi (b) :: vi (a) :: st) μ := by
  obtain ⟨⟨l, dC, dI, ad, ac, sK, sV⟩, p, e, R, s, m, args, below, meth, c, A, cells, slots, Fin⟩ := X
  obtain ⟨cc, own, y, nL, ret, d⟩ := M
  intro C H locs la hP hS hl
  have k := k C H locs la hP hS hl
  obtain ⟨hx, hb, hr, hlk, hml, hown, hts, hK, hD, hSX, hc1, hc2, hd1, hd2⟩ := C
  show W p l e R s m args below meth c H locs cells slots Fin (F0 m pc la (.int (Int32.ofInt (b)) :: .int (Int32.ofInt (a)) :: st.map (cv ad sK)))
  replace k : W p l e R s m args below meth c H locs cells slots Fin (F0 m (pc + 1) la (.int (Int32.ofInt (a + b)) :: st.map (cv ad sK))) := k
  refine lv_iadd hx hb hd ?_
  rw [zi_add]; exact k
theorem V_isub {X : ZX} {M : MD} {pc : Nat} {ls st : List AV} {μ : Mem} {a b : Int} (hd : decode M.1 pc = .ok (.isub, 1))  (k : V X M (pc + 1) ls (vi (a - b) :: st) μ) : V X M pc ls (vi (b) :: vi (a) :: st) μ := by
  obtain ⟨⟨l, dC, dI, ad, ac, sK, sV⟩, p, e, R, s, m, args, below, meth, c, A, cells, slots, Fin⟩ := X
  obtain ⟨cc, own, y, nL, ret, d⟩ := M
  intro C H locs la hP hS hl
  have k := k C H locs la hP hS hl
  obtain ⟨hx, hb, hr, hlk, hml, hown, hts, hK, hD, hSX, hc1, hc2, hd1, hd2⟩ := C
  show W p l e R s m args below meth c H locs cells slots Fin (F0 m pc la (.int (Int32.ofInt (b)) :: .int (Int32.ofInt (a)) :: st.map (cv ad sK)))
  replace k : W p l e R s m args below meth c H locs cells slots Fin (F0 m (pc + 1) la (.int (Int32.ofInt (a - b)) :: st.map (cv ad sK))) := k
  refine lv_isub hx hb hd ?_
  rw [zi_sub]; exact k
theorem V_imul {X : ZX} {M : MD} {pc : Nat} {ls st : List AV} {μ : Mem} {a b : Int} (hd : decode M.1 pc = .ok (.imul, 1))  (k : V X M (pc + 1) ls (vi (a * b) :: st) μ) : V X M pc ls (vi (b) :: vi (a) :: st) μ := by
  obtain ⟨⟨l, dC, dI, ad, ac, sK, sV⟩, p, e, R, s, m, args, below, meth, c, A, cells, slots, Fin⟩ := X
  obtain ⟨cc, own, y, nL, ret, d⟩ := M
  intro C H locs la hP hS hl
  have k := k C H locs la hP hS hl
  obtain ⟨hx, hb, hr, hlk, hml, hown, hts, hK, hD, hSX, hc1, hc2, hd1, hd2⟩ := C
  show W p l e R s m args below meth c H locs cells slots Fin (F0 m pc la (.int (Int32.ofInt (b)) :: .int (Int32.ofInt (a)) :: st.map (cv ad sK)))
  replace k : W p l e R s m args below meth c H locs cells slots Fin (F0 m (pc + 1) la (.int (Int32.ofInt (a * b)) :: st.map (cv ad sK))) := k
  refine lv_imul hx hb hd ?_
  rw [zi_mul]; exact k
theorem V_ladd {X : ZX} {M : MD} {pc : Nat} {ls st : List AV} {μ : Mem} {a b : Int} (hd : decode M.1 pc = .ok (.ladd, 1))  (k : V X M (pc + 1) ls (vl (a + b) :: st) μ) : V X M pc ls (vl (b) :: vl (a) :: st) μ := by
  obtain ⟨⟨l, dC, dI, ad, ac, sK, sV⟩, p, e, R, s, m, args, below, meth, c, A, cells, slots, Fin⟩ := X
  obtain ⟨cc, own, y, nL, ret, d⟩ := M
  intro C H locs la hP hS hl
  have k := k C H locs la hP hS hl
  obtain ⟨hx, hb, hr, hlk, hml, hown, hts, hK, hD, hSX, hc1, hc2, hd1, hd2⟩ := C
  show W p l e R s m args below meth c H locs cells slots Fin (F0 m pc la (.long (Int64.ofInt (b)) :: .long (Int64.ofInt (a)) :: st.map (cv ad sK)))
  replace k : W p l e R s m args below meth c H locs cells slots Fin (F0 m (pc + 1) la (.long (Int64.ofInt (a + b)) :: st.map (cv ad sK))) := k
  refine lv_ladd hx hb hd ?_
  rw [zl_add]; exact k
theorem V_lsub {X : ZX} {M : MD} {pc : Nat} {ls st : List AV} {μ : Mem} {a b : Int} (hd : decode M.1 pc = .ok (.lsub, 1))  (k : V X M (pc + 1) ls (vl (a - b) :: st) μ) : V X M pc ls (vl (b) :: vl (a) :: st) μ := by
  obtain ⟨⟨l, dC, dI, ad, ac, sK, sV⟩, p, e, R, s, m, args, below, meth, c, A, cells, slots, Fin⟩ := X
  obtain ⟨cc, own, y, nL, ret, d⟩ := M
  intro C H locs la hP hS hl
  have k := k C H locs la hP hS hl
  obtain ⟨hx, hb, hr, hlk, hml, hown, hts, hK, hD, hSX, hc1, hc2, hd1, hd2⟩ := C
  show W p l e R s m args below meth c H locs cells slots Fin (F0 m pc la (.long (Int64.ofInt (b)) :: .long (Int64.ofInt (a)) :: st.map (cv ad sK)))
  replace k : W p l e R s m args below meth c H locs cells slots Fin (F0 m (pc + 1) la (.long (Int64.ofInt (a - b)) :: st.map (cv ad sK))) := k
  refine lv_lsub hx hb hd ?_
  rw [zl_sub]; exact k
theorem V_lmul {X : ZX} {M : MD} {pc : Nat} {ls st : List AV} {μ : Mem} {a b : Int} (hd : decode M.1 pc = .ok (.lmul, 1))  (k : V X M (pc + 1) ls (vl (a * b) :: st) μ) : V X M pc ls (vl (b) :: vl (a) :: st) μ := by
  obtain ⟨⟨l, dC, dI, ad, ac, sK, sV⟩, p, e, R, s, m, args, below, meth, c, A, cells, slots, Fin⟩ := X
  obtain ⟨cc, own, y, nL, ret, d⟩ := M
  intro C H locs la hP hS hl
  have k := k C H locs la hP hS hl
  obtain ⟨hx, hb, hr, hlk, hml, hown, hts, hK, hD, hSX, hc1, hc2, hd1, hd2⟩ := C
  show W p l e R s m args below meth c H locs cells slots Fin (F0 m pc la (.long (Int64.ofInt (b)) :: .long (Int64.ofInt (a)) :: st.map (cv ad sK)))
  replace k : W p l e R s m args below meth c H locs cells slots Fin (F0 m (pc + 1) la (.long (Int64.ofInt (a * b)) :: st.map (cv ad sK))) := k
  refine lv_lmul hx hb hd ?_
  rw [zl_mul]; exact k
theorem V_iand {X : ZX} {M : MD} {pc : Nat} {ls st : List AV} {μ : Mem} {a b : Int} (hd : decode M.1 pc = .ok (.iand, 1))  (k : V X M (pc + 1) ls (vi (iand a b) :: st) μ) : V X M pc ls (vi (b) :: vi (a) :: st) μ := by
  obtain ⟨⟨l, dC, dI, ad, ac, sK, sV⟩, p, e, R, s, m, args, below, meth, c, A, cells, slots, Fin⟩ := X
  obtain ⟨cc, own, y, nL, ret, d⟩ := M
  intro C H locs la hP hS hl
  have k := k C H locs la hP hS hl
  obtain ⟨hx, hb, hr, hlk, hml, hown, hts, hK, hD, hSX, hc1, hc2, hd1, hd2⟩ := C
  show W p l e R s m args below meth c H locs cells slots Fin (F0 m pc la (.int (Int32.ofInt (b)) :: .int (Int32.ofInt (a)) :: st.map (cv ad sK)))
  replace k : W p l e R s m args below meth c H locs cells slots Fin (F0 m (pc + 1) la (.int (Int32.ofInt (iand a b)) :: st.map (cv ad sK))) := k
  refine lv_iand hx hb hd ?_
  unfold iand at k; rw [zi_of] at k; exact k
theorem V_ior {X : ZX} {M : MD} {pc : Nat} {ls st : List AV} {μ : Mem} {a b : Int} (hd : decode M.1 pc = .ok (.ior, 1))  (k : V X M (pc + 1) ls (vi (iorr a b) :: st) μ) : V X M pc ls (vi (b) :: vi (a) :: st) μ := by
  obtain ⟨⟨l, dC, dI, ad, ac, sK, sV⟩, p, e, R, s, m, args, below, meth, c, A, cells, slots, Fin⟩ := X
  obtain ⟨cc, own, y, nL, ret, d⟩ := M
  intro C H locs la hP hS hl
  have k := k C H locs la hP hS hl
  obtain ⟨hx, hb, hr, hlk, hml, hown, hts, hK, hD, hSX, hc1, hc2, hd1, hd2⟩ := C
  show W p l e R s m args below meth c H locs cells slots Fin (F0 m pc la (.int (Int32.ofInt (b)) :: .int (Int32.ofInt (a)) :: st.map (cv ad sK)))
  replace k : W p l e R s m args below meth c H locs cells slots Fin (F0 m (pc + 1) la (.int (Int32.ofInt (iorr a b)) :: st.map (cv ad sK))) := k
  refine lv_ior hx hb hd ?_
  unfold iorr at k; rw [zi_of] at k; exact k
theorem V_ixor {X : ZX} {M : MD} {pc : Nat} {ls st : List AV} {μ : Mem} {a b : Int} (hd : decode M.1 pc = .ok (.ixor, 1))  (k : V X M (pc + 1) ls (vi (ixor a b) :: st) μ) : V X M pc ls (vi (b) :: vi (a) :: st) μ := by
  obtain ⟨⟨l, dC, dI, ad, ac, sK, sV⟩, p, e, R, s, m, args, below, meth, c, A, cells, slots, Fin⟩ := X
  obtain ⟨cc, own, y, nL, ret, d⟩ := M
  intro C H locs la hP hS hl
  have k := k C H locs la hP hS hl
  obtain ⟨hx, hb, hr, hlk, hml, hown, hts, hK, hD, hSX, hc1, hc2, hd1, hd2⟩ := C
  show W p l e R s m args below meth c H locs cells slots Fin (F0 m pc la (.int (Int32.ofInt (b)) :: .int (Int32.ofInt (a)) :: st.map (cv ad sK)))
  replace k : W p l e R s m args below meth c H locs cells slots Fin (F0 m (pc + 1) la (.int (Int32.ofInt (ixor a b)) :: st.map (cv ad sK))) := k
  refine lv_ixor hx hb hd ?_
  unfold ixor at k; rw [zi_of] at k; exact k
theorem V_ishl {X : ZX} {M : MD} {pc : Nat} {ls st : List AV} {μ : Mem} {a b : Int} (hd : decode M.1 pc = .ok (.ishl, 1))  (k : V X M (pc + 1) ls (vi (ishl a b) :: st) μ) : V X M pc ls (vi (b) :: vi (a) :: st) μ := by
  obtain ⟨⟨l, dC, dI, ad, ac, sK, sV⟩, p, e, R, s, m, args, below, meth, c, A, cells, slots, Fin⟩ := X
  obtain ⟨cc, own, y, nL, ret, d⟩ := M
  intro C H locs la hP hS hl
  have k := k C H locs la hP hS hl
  obtain ⟨hx, hb, hr, hlk, hml, hown, hts, hK, hD, hSX, hc1, hc2, hd1, hd2⟩ := C
  show W p l e R s m args below meth c H locs cells slots Fin (F0 m pc la (.int (Int32.ofInt (b)) :: .int (Int32.ofInt (a)) :: st.map (cv ad sK)))
  replace k : W p l e R s m args below meth c H locs cells slots Fin (F0 m (pc + 1) la (.int (Int32.ofInt (ishl a b)) :: st.map (cv ad sK))) := k
  refine lv_ishl hx hb hd ?_
  unfold ishl at k; rw [zi_of] at k; exact k
theorem V_ishr {X : ZX} {M : MD} {pc : Nat} {ls st : List AV} {μ : Mem} {a b : Int} (hd : decode M.1 pc = .ok (.ishr, 1))  (k : V X M (pc + 1) ls (vi (ishr a b) :: st) μ) : V X M pc ls (vi (b) :: vi (a) :: st) μ := by
  obtain ⟨⟨l, dC, dI, ad, ac, sK, sV⟩, p, e, R, s, m, args, below, meth, c, A, cells, slots, Fin⟩ := X
  obtain ⟨cc, own, y, nL, ret, d⟩ := M
  intro C H locs la hP hS hl
  have k := k C H locs la hP hS hl
  obtain ⟨hx, hb, hr, hlk, hml, hown, hts, hK, hD, hSX, hc1, hc2, hd1, hd2⟩ := C
  show W p l e R s m args below meth c H locs cells slots Fin (F0 m pc la (.int (Int32.ofInt (b)) :: .int (Int32.ofInt (a)) :: st.map (cv ad sK)))
  replace k : W p l e R s m args below meth c H locs cells slots Fin (F0 m (pc + 1) la (.int (Int32.ofInt (ishr a b)) :: st.map (cv ad sK))) := k
  refine lv_ishr hx hb hd ?_
  unfold ishr at k; rw [zi_of] at k; exact k
theorem V_land {X : ZX} {M : MD} {pc : Nat} {ls st : List AV} {μ : Mem} {a b : Int} (hd : decode M.1 pc = .ok (.land, 1))  (k : V X M (pc + 1) ls (vl (landd a b) :: st) μ) : V X M pc ls (vl (b) :: vl (a) :: st) μ := by
  obtain ⟨⟨l, dC, dI, ad, ac, sK, sV⟩, p, e, R, s, m, args, below, meth, c, A, cells, slots, Fin⟩ := X
  obtain ⟨cc, own, y, nL, ret, d⟩ := M
  intro C H locs la hP hS hl
  have k := k C H locs la hP hS hl
  obtain ⟨hx, hb, hr, hlk, hml, hown, hts, hK, hD, hSX, hc1, hc2, hd1, hd2⟩ := C
  show W p l e R s m args below meth c H locs cells slots Fin (F0 m pc la (.long (Int64.ofInt (b)) :: .long (Int64.ofInt (a)) :: st.map (cv ad sK)))
  replace k : W p l e R s m args below meth c H locs cells slots Fin (F0 m (pc + 1) la (.long (Int64.ofInt (landd a b)) :: st.map (cv ad sK))) := k
  refine lv_land hx hb hd ?_
  unfold landd at k; rw [zl_of] at k; exact k
theorem V_lor {X : ZX} {M : MD} {pc : Nat} {ls st : List AV} {μ : Mem} {a b : Int} (hd : decode M.1 pc = .ok (.lor, 1))  (k : V X M (pc + 1) ls (vl (lorr a b) :: st) μ) : V X M pc ls (vl (b) :: vl (a) :: st) μ := by
  obtain ⟨⟨l, dC, dI, ad, ac, sK, sV⟩, p, e, R, s, m, args, below, meth, c, A, cells, slots, Fin⟩ := X
  obtain ⟨cc, own, y, nL, ret, d⟩ := M
  intro C H locs la hP hS hl
  have k := k C H locs la hP hS hl
  obtain ⟨hx, hb, hr, hlk, hml, hown, hts, hK, hD, hSX, hc1, hc2, hd1, hd2⟩ := C
  show W p l e R s m args below meth c H locs cells slots Fin (F0 m pc la (.long (Int64.ofInt (b)) :: .long (Int64.ofInt (a)) :: st.map (cv ad sK)))
  replace k : W p l e R s m args below meth c H locs cells slots Fin (F0 m (pc + 1) la (.long (Int64.ofInt (lorr a b)) :: st.map (cv ad sK))) := k
  refine lv_lor hx hb hd ?_
  unfold lorr at k; rw [zl_of] at k; exact k
theorem V_lshl {X : ZX} {M : MD} {pc : Nat} {ls st : List AV} {μ : Mem} {a b : Int} (hd : decode M.1 pc = .ok (.lshl, 1))  (k : V X M (pc + 1) ls (vl (lshl a b) :: st) μ) : V X M pc ls (vi (b) :: vl (a) :: st) μ := by
  obtain ⟨⟨l, dC, dI, ad, ac, sK, sV⟩, p, e, R, s, m, args, below, meth, c, A, cells, slots, Fin⟩ := X
  obtain ⟨cc, own, y, nL, ret, d⟩ := M
  intro C H locs la hP hS hl
  have k := k C H locs la hP hS hl
  obtain ⟨hx, hb, hr, hlk, hml, hown, hts, hK, hD, hSX, hc1, hc2, hd1, hd2⟩ := C
  show W p l e R s m args below meth c H locs cells slots Fin (F0 m pc la (.int (Int32.ofInt (b)) :: .long (Int64.ofInt (a)) :: st.map (cv ad sK)))
  replace k : W p l e R s m args below meth c H locs cells slots Fin (F0 m (pc + 1) la (.long (Int64.ofInt (lshl a b)) :: st.map (cv ad sK))) := k
  refine lv_lshl hx hb hd rfl ?_
  unfold lshl at k; rw [zl_of] at k; exact k
theorem V_lshr {X : ZX} {M : MD} {pc : Nat} {ls st : List AV} {μ : Mem} {a b : Int} (hd : decode M.1 pc = .ok (.lshr, 1))  (k : V X M (pc + 1) ls (vl (lshr a b) :: st) μ) : V X M pc ls (vi (b) :: vl (a) :: st) μ := by
  obtain ⟨⟨l, dC, dI, ad, ac, sK, sV⟩, p, e, R, s, m, args, below, meth, c, A, cells, slots, Fin⟩ := X
  obtain ⟨cc, own, y, nL, ret, d⟩ := M
  intro C H locs la hP hS hl
  have k := k C H locs la hP hS hl
  obtain ⟨hx, hb, hr, hlk, hml, hown, hts, hK, hD, hSX, hc1, hc2, hd1, hd2⟩ := C
  show W p l e R s m args below meth c H locs cells slots Fin (F0 m pc la (.int (Int32.ofInt (b)) :: .long (Int64.ofInt (a)) :: st.map (cv ad sK)))
  replace k : W p l e R s m args below meth c H locs cells slots Fin (F0 m (pc + 1) la (.long (Int64.ofInt (lshr a b)) :: st.map (cv ad sK))) := k
  refine lv_lshr hx hb hd rfl ?_
  unfold lshr at k; rw [zl_of] at k; exact k
def iushr (a b : Int) : Int := ((Int32.ofInt a).toUInt32 >>> ((Int32.ofInt b).toUInt32 &&& Int32.toUInt32 31)).toInt32.toInt
def lushr (a b : Int) : Int := ((Int64.ofInt a).toUInt64 >>> ((Int32.ofInt b).toInt64.toUInt64 &&& Int64.toUInt64 63)).toInt64.toInt
theorem V_iushr {X : ZX} {M : MD} {pc : Nat} {ls st : List AV} {μ : Mem} {a b : Int} (hd : decode M.1 pc = .ok (.iushr, 1))  (k : V X M (pc + 1) ls (vi (iushr a b) :: st) μ) : V X M pc ls (vi (b) :: vi (a) :: st) μ := by
  obtain ⟨⟨l, dC, dI, ad, ac, sK, sV⟩, p, e, R, s, m, args, below, meth, c, A, cells, slots, Fin⟩ := X
  obtain ⟨cc, own, y, nL, ret, d⟩ := M
  intro C H locs la hP hS hl
  have k := k C H locs la hP hS hl
  obtain ⟨hx, hb, hr, hlk, hml, hown, hts, hK, hD, hSX, hc1, hc2, hd1, hd2⟩ := C
  show W p l e R s m args below meth c H locs cells slots Fin (F0 m pc la (.int (Int32.ofInt (b)) :: .int (Int32.ofInt (a)) :: st.map (cv ad sK)))
  replace k : W p l e R s m args below meth c H locs cells slots Fin (F0 m (pc + 1) la (.int (Int32.ofInt (iushr a b)) :: st.map (cv ad sK))) := k
  refine lv_iushr hx hb hd rfl ?_
  unfold iushr at k; rw [zi_of] at k; exact k
theorem V_lushr {X : ZX} {M : MD} {pc : Nat} {ls st : List AV} {μ : Mem} {a b : Int} (hd : decode M.1 pc = .ok (.lushr, 1))  (k : V X M (pc + 1) ls (vl (lushr a b) :: st) μ) : V X M pc ls (vi (b) :: vl (a) :: st) μ := by
  obtain ⟨⟨l, dC, dI, ad, ac, sK, sV⟩, p, e, R, s, m, args, below, meth, c, A, cells, slots, Fin⟩ := X
  obtain ⟨cc, own, y, nL, ret, d⟩ := M
  intro C H locs la hP hS hl
  have k := k C H locs la hP hS hl
  obtain ⟨hx, hb, hr, hlk, hml, hown, hts, hK, hD, hSX, hc1, hc2, hd1, hd2⟩ := C
  show W p l e R s m args below meth c H locs cells slots Fin (F0 m pc la (.int (Int32.ofInt (b)) :: .long (Int64.ofInt (a)) :: st.map (cv ad sK)))
  replace k : W p l e R s m args below meth c H locs cells slots Fin (F0 m (pc + 1) la (.long (Int64.ofInt (lushr a b)) :: st.map (cv ad sK))) := k
  refine lv_lushr hx hb hd rfl ?_
  unfold lushr at k; rw [zl_of] at k; exact k
theorem V_idiv {X : ZX} {M : MD} {pc : Nat} {ls st : List AV} {μ : Mem} {a b : Int} (hd : decode M.1 pc = .ok (.idiv, 1)) (ha : inR a) (hb0 : inR b) (h0 : b ≠ 0) (hq : inR (a.tdiv b)) (k : V X M (pc + 1) ls (vi (a.tdiv b) :: st) μ) : V X M pc ls (vi (b) :: vi (a) :: st) μ := by
  obtain ⟨⟨l, dC, dI, ad, ac, sK, sV⟩, p, e, R, s, m, args, below, meth, c, A, cells, slots, Fin⟩ := X
  obtain ⟨cc, own, y, nL, ret, d⟩ := M
  intro C H locs la hP hS hl
  have k := k C H locs la hP hS hl
  obtain ⟨hx, hb, hr, hlk, hml, hown, hts, hK, hD, hSX, hc1, hc2, hd1, hd2⟩ := C
  show W p l e R s m args below meth c H locs cells slots Fin (F0 m pc la (.int (Int32.ofInt (b)) :: .int (Int32.ofInt (a)) :: st.map (cv ad sK)))
  replace k : W p l e R s m args below meth c H locs cells slots Fin (F0 m (pc + 1) la (.int (Int32.ofInt (a.tdiv b)) :: st.map (cv ad sK))) := k
  refine lv_idiv hx hb hd (fun h => h0 ((zi_eq hb0 inR_0).mp (by rw [h]; exact zi_0))) ?_
  rw [zi_div ha hb0 hq]; exact k
theorem V_irem {X : ZX} {M : MD} {pc : Nat} {ls st : List AV} {μ : Mem} {a b : Int} (hd : decode M.1 pc = .ok (.irem, 1)) (ha : inR a) (hb0 : inR b) (h0 : b ≠ 0) (hq : inR (a.tdiv b)) (k : V X M (pc + 1) ls (vi (a.tmod b) :: st) μ) : V X M pc ls (vi (b) :: vi (a) :: st) μ := by
  obtain ⟨⟨l, dC, dI, ad, ac, sK, sV⟩, p, e, R, s, m, args, below, meth, c, A, cells, slots, Fin⟩ := X
  obtain ⟨cc, own, y, nL, ret, d⟩ := M
  intro C H locs la hP hS hl
  have k := k C H locs la hP hS hl
  obtain ⟨hx, hb, hr, hlk, hml, hown, hts, hK, hD, hSX, hc1, hc2, hd1, hd2⟩ := C
  show W p l e R s m args below meth c H locs cells slots Fin (F0 m pc la (.int (Int32.ofInt (b)) :: .int (Int32.ofInt (a)) :: st.map (cv ad sK)))
  replace k : W p l e R s m args below meth c H locs cells slots Fin (F0 m (pc + 1) la (.int (Int32.ofInt (a.tmod b)) :: st.map (cv ad sK))) := k
  refine lv_irem hx hb hd (fun h => h0 ((zi_eq hb0 inR_0).mp (by rw [h]; exact zi_0))) ?_
  rw [zi_div ha hb0 hq, zi_mul, zi_sub, show a - a.tdiv b * b = a.tmod b by rw [Int.tmod_def, Int.mul_comm]]; exact k
theorem V_ldiv {X : ZX} {M : MD} {pc : Nat} {ls st : List AV} {μ : Mem} {a b : Int} (hd : decode M.1 pc = .ok (.ldiv, 1)) (ha : inL a) (hb0 : inL b) (h0 : b ≠ 0) (hq : inL (a.tdiv b)) (k : V X M (pc + 1) ls (vl (a.tdiv b) :: st) μ) : V X M pc ls (vl (b) :: vl (a) :: st) μ := by
  obtain ⟨⟨l, dC, dI, ad, ac, sK, sV⟩, p, e, R, s, m, args, below, meth, c, A, cells, slots, Fin⟩ := X
  obtain ⟨cc, own, y, nL, ret, d⟩ := M
  intro C H locs la hP hS hl
  have k := k C H locs la hP hS hl
  obtain ⟨hx, hb, hr, hlk, hml, hown, hts, hK, hD, hSX, hc1, hc2, hd1, hd2⟩ := C
  show W p l e R s m args below meth c H locs cells slots Fin (F0 m pc la (.long (Int64.ofInt (b)) :: .long (Int64.ofInt (a)) :: st.map (cv ad sK)))
  replace k : W p l e R s m args below meth c H locs cells slots Fin (F0 m (pc + 1) la (.long (Int64.ofInt (a.tdiv b)) :: st.map (cv ad sK))) := k
  refine lv_ldiv hx hb hd (fun h => h0 ((zl_eq hb0 ⟨by omega, by omega⟩).mp (by rw [h]; exact zl_0))) ?_
  rw [zl_div ha hb0 hq]; exact k
theorem V_lrem {X : ZX} {M : MD} {pc : Nat} {ls st : List AV} {μ : Mem} {a b : Int} (hd : decode M.1 pc = .ok (.lrem, 1)) (ha : inL a) (hb0 : inL b) (h0 : b ≠ 0) (hq : inL (a.tdiv b)) (k : V X M (pc + 1) ls (vl (a.tmod b) :: st) μ) : V X M pc ls (vl (b) :: vl (a) :: st) μ := by
  obtain ⟨⟨l, dC, dI, ad, ac, sK, sV⟩, p, e, R, s, m, args, below, meth, c, A, cells, slots, Fin⟩ := X
  obtain ⟨cc, own, y, nL, ret, d⟩ := M
  intro C H locs la hP hS hl
  have k := k C H locs la hP hS hl
  obtain ⟨hx, hb, hr, hlk, hml, hown, hts, hK, hD, hSX, hc1, hc2, hd1, hd2⟩ := C
  show W p l e R s m args below meth c H locs cells slots Fin (F0 m pc la (.long (Int64.ofInt (b)) :: .long (Int64.ofInt (a)) :: st.map (cv ad sK)))
  replace k : W p l e R s m args below meth c H locs cells slots Fin (F0 m (pc + 1) la (.long (Int64.ofInt (a.tmod b)) :: st.map (cv ad sK))) := k
  refine lv_lrem hx hb hd (fun h => h0 ((zl_eq hb0 ⟨by omega, by omega⟩).mp (by rw [h]; exact zl_0))) ?_
  rw [zl_div ha hb0 hq, zl_mul, zl_sub, show a - a.tdiv b * b = a.tmod b by rw [Int.tmod_def, Int.mul_comm]]; exact k
theorem V_i2l {X : ZX} {M : MD} {pc : Nat} {ls st : List AV} {μ : Mem} {a : Int} (hd : decode M.1 pc = .ok (.i2l, 1)) (ha : inR a) (k : V X M (pc + 1) ls (vl (a) :: st) μ) : V X M pc ls (vi (a) :: st) μ := by
  obtain ⟨⟨l, dC, dI, ad, ac, sK, sV⟩, p, e, R, s, m, args, below, meth, c, A, cells, slots, Fin⟩ := X
  obtain ⟨cc, own, y, nL, ret, d⟩ := M
  intro C H locs la hP hS hl
  have k := k C H locs la hP hS hl
  obtain ⟨hx, hb, hr, hlk, hml, hown, hts, hK, hD, hSX, hc1, hc2, hd1, hd2⟩ := C
  show W p l e R s m args below meth c H locs cells slots Fin (F0 m pc la (.int (Int32.ofInt (a)) :: st.map (cv ad sK)))
  replace k : W p l e R s m args below meth c H locs cells slots Fin (F0 m (pc + 1) la (.long (Int64.ofInt (a)) :: st.map (cv ad sK))) := k
  refine lv_i2l hx hb hd (zi_i2l ha) ?_
  exact k
theorem V_l2i {X : ZX} {M : MD} {pc : Nat} {ls st : List AV} {μ : Mem} {a : Int} (hd : decode M.1 pc = .ok (.l2i, 1))  (k : V X M (pc + 1) ls (vi (l2i a) :: st) μ) : V X M pc ls (vl (a) :: st) μ := by
  obtain ⟨⟨l, dC, dI, ad, ac, sK, sV⟩, p, e, R, s, m, args, below, meth, c, A, cells, slots, Fin⟩ := X
  obtain ⟨cc, own, y, nL, ret, d⟩ := M
  intro C H locs la hP hS hl
  have k := k C H locs la hP hS hl
  obtain ⟨hx, hb, hr, hlk, hml, hown, hts, hK, hD, hSX, hc1, hc2, hd1, hd2⟩ := C
  show W p l e R s m args below meth c H locs cells slots Fin (F0 m pc la (.long (Int64.ofInt (a)) :: st.map (cv ad sK)))
  replace k : W p l e R s m args below meth c H locs cells slots Fin (F0 m (pc + 1) la (.int (Int32.ofInt (l2i a)) :: st.map (cv ad sK))) := k
  refine lv_l2i hx hb hd rfl ?_
  unfold l2i at k; rw [zi_of] at k; exact k
def lcm (a b : Int) : Int := if a < b then -1 else if a = b then 0 else 1
theorem zl_cmp {a b : Int} (ha : inL a) (hb : inL b) : lg_cmp (Int64.ofInt a) (Int64.ofInt b) = Int32.ofInt (lcm a b) := by
  have h1 : Int64.ofInt b < Int64.ofInt a ↔ b < a := by rw [Int64.lt_iff_toInt_lt, zl_to ha, zl_to hb]
  have h2 := zl_eq ha hb
  unfold lg_cmp lcm
  simp only [gt_iff_lt, h1, h2]
  by_cases c1 : a < b
  · rw [if_neg (by omega), if_neg (by omega), if_pos c1]; decide
  · by_cases c2 : a = b
    · rw [if_neg (by omega), if_pos c2, if_neg c1, if_pos c2]; decide
    · rw [if_pos (by omega), if_neg c1, if_neg c2]; decide
theorem V_lcmp {X : ZX} {M : MD} {pc : Nat} {ls st : List AV} {μ : Mem} {a b : Int} (hd : decode M.1 pc = .ok (.lcmp, 1)) (ha : inL a) (hb0 : inL b) (k : V X M (pc + 1) ls (vi (lcm a b) :: st) μ) : V X M pc ls (vl (b) :: vl (a) :: st) μ := by
  obtain ⟨⟨l, dC, dI, ad, ac, sK, sV⟩, p, e, R, s, m, args, below, meth, c, A, cells, slots, Fin⟩ := X
  obtain ⟨cc, own, y, nL, ret, d⟩ := M
  intro C H locs la hP hS hl
  have k := k C H locs la hP hS hl
  obtain ⟨hx, hb, hr, hlk, hml, hown, hts, hK, hD, hSX, hc1, hc2, hd1, hd2⟩ := C
  show W p l e R s m args below meth c H locs cells slots Fin (F0 m pc la (.long (Int64.ofInt (b)) :: .long (Int64.ofInt (a)) :: st.map (cv ad sK)))
  replace k : W p l e R s m args below meth c H locs cells slots Fin (F0 m (pc + 1) la (.int (Int32.ofInt (lcm a b)) :: st.map (cv ad sK))) := k
  refine W.lcmp hx hb hd ?_
  rw [zl_cmp ha hb0]; exact k
theorem V_iconst {X : ZX} {M : MD} {pc : Nat} {ls st : List AV} {μ : Mem} {n : Int} (hd : decode M.1 pc = .ok (.iconst n, 1))  (k : V X M (pc + 1) ls (vi (n) :: st) μ) : V X M pc ls (st) μ := by
  obtain ⟨⟨l, dC, dI, ad, ac, sK, sV⟩, p, e, R, s, m, args, below, meth, c, A, cells, slots, Fin⟩ := X
  obtain ⟨cc, own, y, nL, ret, d⟩ := M
  intro C H locs la hP hS hl
  have k := k C H locs la hP hS hl
  obtain ⟨hx, hb, hr, hlk, hml, hown, hts, hK, hD, hSX, hc1, hc2, hd1, hd2⟩ := C
  show W p l e R s m args below meth c H locs cells slots Fin (F0 m pc la (st.map (cv ad sK)))
  replace k : W p l e R s m args below meth c H locs cells slots Fin (F0 m (pc + 1) la (.int (Int32.ofInt (n)) :: st.map (cv ad sK))) := k
  refine lv_iconst hx hb hd rfl ?_
  exact k
theorem V_bipush {X : ZX} {M : MD} {pc : Nat} {ls st : List AV} {μ : Mem} {n : Int} (hd : decode M.1 pc = .ok (.bipush n, 2)) (hv : (Int8.ofInt n).toInt32 = Int32.ofInt n) (k : V X M (pc + 2) ls (vi (n) :: st) μ) : V X M pc ls (st) μ := by
  obtain ⟨⟨l, dC, dI, ad, ac, sK, sV⟩, p, e, R, s, m, args, below, meth, c, A, cells, slots, Fin⟩ := X
  obtain ⟨cc, own, y, nL, ret, d⟩ := M
  intro C H locs la hP hS hl
  have k := k C H locs la hP hS hl
  obtain ⟨hx, hb, hr, hlk, hml, hown, hts, hK, hD, hSX, hc1, hc2, hd1, hd2⟩ := C
  show W p l e R s m args below meth c H locs cells slots Fin (F0 m pc la (st.map (cv ad sK)))
  replace k : W p l e R s m args below meth c H locs cells slots Fin (F0 m (pc + 2) la (.int (Int32.ofInt (n)) :: st.map (cv ad sK))) := k
  refine lv_bipush hx hb hd hv ?_
  exact k
theorem V_sipush {X : ZX} {M : MD} {pc : Nat} {ls st : List AV} {μ : Mem} {n : Int} (hd : decode M.1 pc = .ok (.sipush n, 3)) (hv : (Int16.ofInt n).toInt32 = Int32.ofInt n) (k : V X M (pc + 3) ls (vi (n) :: st) μ) : V X M pc ls (st) μ := by
  obtain ⟨⟨l, dC, dI, ad, ac, sK, sV⟩, p, e, R, s, m, args, below, meth, c, A, cells, slots, Fin⟩ := X
  obtain ⟨cc, own, y, nL, ret, d⟩ := M
  intro C H locs la hP hS hl
  have k := k C H locs la hP hS hl
  obtain ⟨hx, hb, hr, hlk, hml, hown, hts, hK, hD, hSX, hc1, hc2, hd1, hd2⟩ := C
  show W p l e R s m args below meth c H locs cells slots Fin (F0 m pc la (st.map (cv ad sK)))
  replace k : W p l e R s m args below meth c H locs cells slots Fin (F0 m (pc + 3) la (.int (Int32.ofInt (n)) :: st.map (cv ad sK))) := k
  refine lv_sipush hx hb hd hv ?_
  exact k
theorem V_lconst0 {X : ZX} {M : MD} {pc : Nat} {ls st : List AV} {μ : Mem}  (hd : decode M.1 pc = .ok (.lconst 0, 1))  (k : V X M (pc + 1) ls (vl (0) :: st) μ) : V X M pc ls (st) μ := by
  obtain ⟨⟨l, dC, dI, ad, ac, sK, sV⟩, p, e, R, s, m, args, below, meth, c, A, cells, slots, Fin⟩ := X
  obtain ⟨cc, own, y, nL, ret, d⟩ := M
  intro C H locs la hP hS hl
  have k := k C H locs la hP hS hl
  obtain ⟨hx, hb, hr, hlk, hml, hown, hts, hK, hD, hSX, hc1, hc2, hd1, hd2⟩ := C
  show W p l e R s m args below meth c H locs cells slots Fin (F0 m pc la (st.map (cv ad sK)))
  replace k : W p l e R s m args below meth c H locs cells slots Fin (F0 m (pc + 1) la (.long (Int64.ofInt (0)) :: st.map (cv ad sK))) := k
  refine lv_lconst hx hb hd (v := Int64.ofInt 0) (by decide) ?_
  exact k
theorem V_lconst1 {X : ZX} {M : MD} {pc : Nat} {ls st : List AV} {μ : Mem}  (hd : decode M.1 pc = .ok (.lconst 1, 1))  (k : V X M (pc + 1) ls (vl (1) :: st) μ) : V X M pc ls (st) μ := by
  obtain ⟨⟨l, dC, dI, ad, ac, sK, sV⟩, p, e, R, s, m, args, below, meth, c, A, cells, slots, Fin⟩ := X
  obtain ⟨cc, own, y, nL, ret, d⟩ := M
  intro C H locs la hP hS hl
  have k := k C H locs la hP hS hl
  obtain ⟨hx, hb, hr, hlk, hml, hown, hts, hK, hD, hSX, hc1, hc2, hd1, hd2⟩ := C
  show W p l e R s m args below meth c H locs cells slots Fin (F0 m pc la (st.map (cv ad sK)))
  replace k : W p l e R s m args below meth c H locs cells slots Fin (F0 m (pc + 1) la (.long (Int64.ofInt (1)) :: st.map (cv ad sK))) := k
  refine lv_lconst hx hb hd (v := Int64.ofInt 1) (by decide) ?_
  exact k
theorem V_ldc {X : ZX} {M : MD} {pc : Nat} {ls st : List AV} {μ : Mem} {i : Nat} {n : Int} {v : Int32} (hd : decode M.1 pc = .ok (.ldc i, 2)) (hw : Cond.constant M.2.1 i v ∈ TB) (hv : v = Int32.ofInt n) (k : V X M (pc + 2) ls (vi (n) :: st) μ) : V X M pc ls (st) μ := by
  obtain ⟨⟨l, dC, dI, ad, ac, sK, sV⟩, p, e, R, s, m, args, below, meth, c, A, cells, slots, Fin⟩ := X
  obtain ⟨cc, own, y, nL, ret, d⟩ := M
  intro C H locs la hP hS hl
  have k := k C H locs la hP hS hl
  obtain ⟨hx, hb, hr, hlk, hml, hown, hts, hK, hD, hSX, hc1, hc2, hd1, hd2⟩ := C
  show W p l e R s m args below meth c H locs cells slots Fin (F0 m pc la (st.map (cv ad sK)))
  replace k : W p l e R s m args below meth c H locs cells slots Fin (F0 m (pc + 2) la (.int (Int32.ofInt (n)) :: st.map (cv ad sK))) := k
  refine lv_ldc hx hb hown (hts _ hw) hd ?_
  rw [hv]; exact k
theorem V_ldcw {X : ZX} {M : MD} {pc : Nat} {ls st : List AV} {μ : Mem} {i : Nat} {n : Int} {v : Int32} (hd : decode M.1 pc = .ok (.ldc_w i, 3)) (hw : Cond.constant M.2.1 i v ∈ TB) (hv : v = Int32.ofInt n) (k : V X M (pc + 3) ls (vi (n) :: st) μ) : V X M pc ls (st) μ := by
  obtain ⟨⟨l, dC, dI, ad, ac, sK, sV⟩, p, e, R, s, m, args, below, meth, c, A, cells, slots, Fin⟩ := X
  obtain ⟨cc, own, y, nL, ret, d⟩ := M
  intro C H locs la hP hS hl
  have k := k C H locs la hP hS hl
  obtain ⟨hx, hb, hr, hlk, hml, hown, hts, hK, hD, hSX, hc1, hc2, hd1, hd2⟩ := C
  show W p l e R s m args below meth c H locs cells slots Fin (F0 m pc la (st.map (cv ad sK)))
  replace k : W p l e R s m args below meth c H locs cells slots Fin (F0 m (pc + 3) la (.int (Int32.ofInt (n)) :: st.map (cv ad sK))) := k
  refine lv_ldcw hx hb hown (hts _ hw) hd ?_
  rw [hv]; exact k
theorem V_ldc2 {X : ZX} {M : MD} {pc : Nat} {ls st : List AV} {μ : Mem} {i : Nat} {n : Int} {v : Int64} (hd : decode M.1 pc = .ok (.ldc2_w i, 3)) (hw : Cond.constantLong M.2.1 i v ∈ TB) (hv : v = Int64.ofInt n) (k : V X M (pc + 3) ls (vl (n) :: st) μ) : V X M pc ls (st) μ := by
  obtain ⟨⟨l, dC, dI, ad, ac, sK, sV⟩, p, e, R, s, m, args, below, meth, c, A, cells, slots, Fin⟩ := X
  obtain ⟨cc, own, y, nL, ret, d⟩ := M
  intro C H locs la hP hS hl
  have k := k C H locs la hP hS hl
  obtain ⟨hx, hb, hr, hlk, hml, hown, hts, hK, hD, hSX, hc1, hc2, hd1, hd2⟩ := C
  show W p l e R s m args below meth c H locs cells slots Fin (F0 m pc la (st.map (cv ad sK)))
  replace k : W p l e R s m args below meth c H locs cells slots Fin (F0 m (pc + 3) la (.long (Int64.ofInt (n)) :: st.map (cv ad sK))) := k
  refine lv_ldc2 hx hb hown (hts _ hw) hd ?_
  rw [hv]; exact k
theorem V_dup_i {X : ZX} {M : MD} {pc : Nat} {ls st : List AV} {μ : Mem} {a : Int} (hd : decode M.1 pc = .ok (.dup, 1))  (k : V X M (pc + 1) ls (vi (a) :: vi (a) :: st) μ) : V X M pc ls (vi (a) :: st) μ := by
  obtain ⟨⟨l, dC, dI, ad, ac, sK, sV⟩, p, e, R, s, m, args, below, meth, c, A, cells, slots, Fin⟩ := X
  obtain ⟨cc, own, y, nL, ret, d⟩ := M
  intro C H locs la hP hS hl
  have k := k C H locs la hP hS hl
  obtain ⟨hx, hb, hr, hlk, hml, hown, hts, hK, hD, hSX, hc1, hc2, hd1, hd2⟩ := C
  show W p l e R s m args below meth c H locs cells slots Fin (F0 m pc la (.int (Int32.ofInt (a)) :: st.map (cv ad sK)))
  replace k : W p l e R s m args below meth c H locs cells slots Fin (F0 m (pc + 1) la (.int (Int32.ofInt (a)) :: .int (Int32.ofInt (a)) :: st.map (cv ad sK))) := k
  refine lv_dup hx hb hd rfl ?_
  exact k
theorem V_dup_r {X : ZX} {M : MD} {pc : Nat} {ls st : List AV} {μ : Mem} {a : Nat} (hd : decode M.1 pc = .ok (.dup, 1))  (k : V X M (pc + 1) ls (vr a :: vr a :: st) μ) : V X M pc ls (vr a :: st) μ := by
  obtain ⟨⟨l, dC, dI, ad, ac, sK, sV⟩, p, e, R, s, m, args, below, meth, c, A, cells, slots, Fin⟩ := X
  obtain ⟨cc, own, y, nL, ret, d⟩ := M
  intro C H locs la hP hS hl
  have k := k C H locs la hP hS hl
  obtain ⟨hx, hb, hr, hlk, hml, hown, hts, hK, hD, hSX, hc1, hc2, hd1, hd2⟩ := C
  show W p l e R s m args below meth c H locs cells slots Fin (F0 m pc la (.ref (ad a) :: st.map (cv ad sK)))
  replace k : W p l e R s m args below meth c H locs cells slots Fin (F0 m (pc + 1) la (.ref (ad a) :: .ref (ad a) :: st.map (cv ad sK))) := k
  refine lv_dup hx hb hd rfl ?_
  exact k
theorem V_dup2_ir {X : ZX} {M : MD} {pc : Nat} {ls st : List AV} {μ : Mem} {a : Int} {b : Nat} (hd : decode M.1 pc = .ok (.dup2, 1))  (k : V X M (pc + 1) ls (vi (a) :: vr b :: vi (a) :: vr b :: st) μ) : V X M pc ls (vi (a) :: vr b :: st) μ := by
  obtain ⟨⟨l, dC, dI, ad, ac, sK, sV⟩, p, e, R, s, m, args, below, meth, c, A, cells, slots, Fin⟩ := X
  obtain ⟨cc, own, y, nL, ret, d⟩ := M
  intro C H locs la hP hS hl
  have k := k C H locs la hP hS hl
  obtain ⟨hx, hb, hr, hlk, hml, hown, hts, hK, hD, hSX, hc1, hc2, hd1, hd2⟩ := C
  show W p l e R s m args below meth c H locs cells slots Fin (F0 m pc la (.int (Int32.ofInt (a)) :: .ref (ad b) :: st.map (cv ad sK)))
  replace k : W p l e R s m args below meth c H locs cells slots Fin (F0 m (pc + 1) la (.int (Int32.ofInt (a)) :: .ref (ad b) :: .int (Int32.ofInt (a)) :: .ref (ad b) :: st.map (cv ad sK))) := k
  refine lv_dup2_11 hx hb hd rfl rfl ?_
  exact k
theorem V_iload {X : ZX} {M : MD} {pc : Nat} {ls st : List AV} {μ : Mem} {a : Int} {i : Nat} (hd : decode M.1 pc = .ok (.iload i, 2)) (hi : ls[i]? = some (vi (a))) (k : V X M (pc + 2) ls (vi (a) :: st) μ) : V X M pc ls (st) μ := by
  obtain ⟨⟨l, dC, dI, ad, ac, sK, sV⟩, p, e, R, s, m, args, below, meth, c, A, cells, slots, Fin⟩ := X
  obtain ⟨cc, own, y, nL, ret, d⟩ := M
  intro C H locs la hP hS hl
  have k := k C H locs la hP hS hl
  obtain ⟨hx, hb, hr, hlk, hml, hown, hts, hK, hD, hSX, hc1, hc2, hd1, hd2⟩ := C
  show W p l e R s m args below meth c H locs cells slots Fin (F0 m pc la (st.map (cv ad sK)))
  replace k : W p l e R s m args below meth c H locs cells slots Fin (F0 m (pc + 2) la (.int (Int32.ofInt (a)) :: st.map (cv ad sK))) := k
  refine lv_iload hx hb hd (lcl_get hl hi rfl) ?_
  exact k
theorem V_iloadn {X : ZX} {M : MD} {pc : Nat} {ls st : List AV} {μ : Mem} {a : Int} {k0 : Fin 4} (hd : decode M.1 pc = .ok (.iload_n k0, 1)) (hi : ls[(k0 : Nat)]? = some (vi (a))) (k : V X M (pc + 1) ls (vi (a) :: st) μ) : V X M pc ls (st) μ := by
  obtain ⟨⟨l, dC, dI, ad, ac, sK, sV⟩, p, e, R, s, m, args, below, meth, c, A, cells, slots, Fin⟩ := X
  obtain ⟨cc, own, y, nL, ret, d⟩ := M
  intro C H locs la hP hS hl
  have k := k C H locs la hP hS hl
  obtain ⟨hx, hb, hr, hlk, hml, hown, hts, hK, hD, hSX, hc1, hc2, hd1, hd2⟩ := C
  show W p l e R s m args below meth c H locs cells slots Fin (F0 m pc la (st.map (cv ad sK)))
  replace k : W p l e R s m args below meth c H locs cells slots Fin (F0 m (pc + 1) la (.int (Int32.ofInt (a)) :: st.map (cv ad sK))) := k
  refine lv_iload_n hx hb hd rfl (lcl_get hl hi rfl) ?_
  exact k
theorem V_lload {X : ZX} {M : MD} {pc : Nat} {ls st : List AV} {μ : Mem} {a : Int} {i : Nat} (hd : decode M.1 pc = .ok (.lload i, 2)) (hi : ls[i]? = some (vl (a))) (k : V X M (pc + 2) ls (vl (a) :: st) μ) : V X M pc ls (st) μ := by
  obtain ⟨⟨l, dC, dI, ad, ac, sK, sV⟩, p, e, R, s, m, args, below, meth, c, A, cells, slots, Fin⟩ := X
  obtain ⟨cc, own, y, nL, ret, d⟩ := M
  intro C H locs la hP hS hl
  have k := k C H locs la hP hS hl
  obtain ⟨hx, hb, hr, hlk, hml, hown, hts, hK, hD, hSX, hc1, hc2, hd1, hd2⟩ := C
  show W p l e R s m args below meth c H locs cells slots Fin (F0 m pc la (st.map (cv ad sK)))
  replace k : W p l e R s m args below meth c H locs cells slots Fin (F0 m (pc + 2) la (.long (Int64.ofInt (a)) :: st.map (cv ad sK))) := k
  refine lv_lload hx hb hd (lcl_get hl hi rfl) ?_
  exact k
theorem V_lloadn {X : ZX} {M : MD} {pc : Nat} {ls st : List AV} {μ : Mem} {a : Int} {k0 : Fin 4} (hd : decode M.1 pc = .ok (.lload_n k0, 1)) (hi : ls[(k0 : Nat)]? = some (vl (a))) (k : V X M (pc + 1) ls (vl (a) :: st) μ) : V X M pc ls (st) μ := by
  obtain ⟨⟨l, dC, dI, ad, ac, sK, sV⟩, p, e, R, s, m, args, below, meth, c, A, cells, slots, Fin⟩ := X
  obtain ⟨cc, own, y, nL, ret, d⟩ := M
  intro C H locs la hP hS hl
  have k := k C H locs la hP hS hl
  obtain ⟨hx, hb, hr, hlk, hml, hown, hts, hK, hD, hSX, hc1, hc2, hd1, hd2⟩ := C
  show W p l e R s m args below meth c H locs cells slots Fin (F0 m pc la (st.map (cv ad sK)))
  replace k : W p l e R s m args below meth c H locs cells slots Fin (F0 m (pc + 1) la (.long (Int64.ofInt (a)) :: st.map (cv ad sK))) := k
  refine lv_lload_n hx hb hd rfl (lcl_get hl hi rfl) ?_
  exact k
theorem V_aloadn {X : ZX} {M : MD} {pc : Nat} {ls st : List AV} {μ : Mem} {a : Nat} {k0 : Fin 4} (hd : decode M.1 pc = .ok (.aload_n k0, 1)) (hi : ls[(k0 : Nat)]? = some (vr a)) (k : V X M (pc + 1) ls (vr a :: st) μ) : V X M pc ls (st) μ := by
  obtain ⟨⟨l, dC, dI, ad, ac, sK, sV⟩, p, e, R, s, m, args, below, meth, c, A, cells, slots, Fin⟩ := X
  obtain ⟨cc, own, y, nL, ret, d⟩ := M
  intro C H locs la hP hS hl
  have k := k C H locs la hP hS hl
  obtain ⟨hx, hb, hr, hlk, hml, hown, hts, hK, hD, hSX, hc1, hc2, hd1, hd2⟩ := C
  show W p l e R s m args below meth c H locs cells slots Fin (F0 m pc la (st.map (cv ad sK)))
  replace k : W p l e R s m args below meth c H locs cells slots Fin (F0 m (pc + 1) la (.ref (ad a) :: st.map (cv ad sK))) := k
  refine lv_aload_n hx hb hd rfl (lcl_get hl hi rfl) ?_
  exact k
theorem V_sloadn {X : ZX} {M : MD} {pc : Nat} {ls st : List AV} {μ : Mem} {a : Nat} {k0 : Fin 4} (hd : decode M.1 pc = .ok (.aload_n k0, 1)) (hi : ls[(k0 : Nat)]? = some (vs a)) (k : V X M (pc + 1) ls (vs a :: st) μ) : V X M pc ls (st) μ := by
  obtain ⟨⟨l, dC, dI, ad, ac, sK, sV⟩, p, e, R, s, m, args, below, meth, c, A, cells, slots, Fin⟩ := X
  obtain ⟨cc, own, y, nL, ret, d⟩ := M
  intro C H locs la hP hS hl
  have k := k C H locs la hP hS hl
  obtain ⟨hx, hb, hr, hlk, hml, hown, hts, hK, hD, hSX, hc1, hc2, hd1, hd2⟩ := C
  show W p l e R s m args below meth c H locs cells slots Fin (F0 m pc la (st.map (cv ad sK)))
  replace k : W p l e R s m args below meth c H locs cells slots Fin (F0 m (pc + 1) la (.ref (sK a) :: st.map (cv ad sK))) := k
  refine lv_aload_n hx hb hd rfl (lcl_get hl hi rfl) ?_
  exact k
theorem V_istore_0 {X : ZX} {M : MD} {pc : Nat} {st : List AV} {μ : Mem} {old : AV} {t : List AV} {x : Int} (hd : decode M.1 pc = .ok (.istore_n 0, 1)) (hn : 0 < M.2.2.2.1)  (k : V X M (pc + 1) (vi (x) :: t) st μ) : V X M pc (old :: t) (vi (x) :: st) μ := by
  obtain ⟨⟨l, dC, dI, ad, ac, sK, sV⟩, p, e, R, s, m, args, below, meth, c, A, cells, slots, Fin⟩ := X
  obtain ⟨cc, own, y, nL, ret, d⟩ := M
  intro C H locs la hP hS hl
  have k := fun la2 h2 => k C H locs la2 hP hS h2
  obtain ⟨hx, hb, hr, hlk, hml, hown, hts, hK, hD, hSX, hc1, hc2, hd1, hd2⟩ := C
  show W p l e R s m args below meth c H locs cells slots Fin (F0 m pc la (.int (Int32.ofInt (x)) :: st.map (cv ad sK)))
  refine lv_istore_n hx hb hd rfl hl hn rfl (fun la2 h2 => ?_)
  exact k la2 (lcl_set1 (ls := old :: t) (i := 0) (v := vi (x)) (by simp) (fun j w e h => by omega) h2)
theorem V_lstore_0 {X : ZX} {M : MD} {pc : Nat} {st : List AV} {μ : Mem} {old old2 : AV} {t : List AV} {x : Int} (hd : decode M.1 pc = .ok (.lstore_n 0, 1)) (hn : 1 < M.2.2.2.1)  (k : V X M (pc + 1) (vl (x) :: un :: t) st μ) : V X M pc (old :: old2 :: t) (vl (x) :: st) μ := by
  obtain ⟨⟨l, dC, dI, ad, ac, sK, sV⟩, p, e, R, s, m, args, below, meth, c, A, cells, slots, Fin⟩ := X
  obtain ⟨cc, own, y, nL, ret, d⟩ := M
  intro C H locs la hP hS hl
  have k := fun la2 h2 => k C H locs la2 hP hS h2
  obtain ⟨hx, hb, hr, hlk, hml, hown, hts, hK, hD, hSX, hc1, hc2, hd1, hd2⟩ := C
  show W p l e R s m args below meth c H locs cells slots Fin (F0 m pc la (.long (Int64.ofInt (x)) :: st.map (cv ad sK)))
  refine lv_lstore_n hx hb hd rfl hl hn rfl (fun la2 h2 => ?_)
  exact k la2 (lcl_set2 (ls := old :: old2 :: t) (i := 0) (v := vl (x)) (by simp) (fun j w e h => by omega) h2)
theorem V_istore_1 {X : ZX} {M : MD} {pc : Nat} {st : List AV} {μ : Mem} {a0 old : AV} {t : List AV} {x : Int} (hd : decode M.1 pc = .ok (.istore_n 1, 1)) (hn : 1 < M.2.2.2.1) (hp : isL a0 = false) (k : V X M (pc + 1) (a0 :: vi (x) :: t) st μ) : V X M pc (a0 :: old :: t) (vi (x) :: st) μ := by
  obtain ⟨⟨l, dC, dI, ad, ac, sK, sV⟩, p, e, R, s, m, args, below, meth, c, A, cells, slots, Fin⟩ := X
  obtain ⟨cc, own, y, nL, ret, d⟩ := M
  intro C H locs la hP hS hl
  have k := fun la2 h2 => k C H locs la2 hP hS h2
  obtain ⟨hx, hb, hr, hlk, hml, hown, hts, hK, hD, hSX, hc1, hc2, hd1, hd2⟩ := C
  show W p l e R s m args below meth c H locs cells slots Fin (F0 m pc la (.int (Int32.ofInt (x)) :: st.map (cv ad sK)))
  refine lv_istore_n hx hb hd rfl hl hn rfl (fun la2 h2 => ?_)
  exact k la2 (lcl_set1 (ls := a0 :: old :: t) (i := 1) (v := vi (x)) (by simp) (fun j w e h => by obtain rfl : j = 0 := (by omega); cases h; exact hp) h2)
theorem V_lstore_1 {X : ZX} {M : MD} {pc : Nat} {st : List AV} {μ : Mem} {a0 old old2 : AV} {t : List AV} {x : Int} (hd : decode M.1 pc = .ok (.lstore_n 1, 1)) (hn : 2 < M.2.2.2.1) (hp : isL a0 = false) (k : V X M (pc + 1) (a0 :: vl (x) :: un :: t) st μ) : V X M pc (a0 :: old :: old2 :: t) (vl (x) :: st) μ := by
  obtain ⟨⟨l, dC, dI, ad, ac, sK, sV⟩, p, e, R, s, m, args, below, meth, c, A, cells, slots, Fin⟩ := X
  obtain ⟨cc, own, y, nL, ret, d⟩ := M
  intro C H locs la hP hS hl
  have k := fun la2 h2 => k C H locs la2 hP hS h2
  obtain ⟨hx, hb, hr, hlk, hml, hown, hts, hK, hD, hSX, hc1, hc2, hd1, hd2⟩ := C
  show W p l e R s m args below meth c H locs cells slots Fin (F0 m pc la (.long (Int64.ofInt (x)) :: st.map (cv ad sK)))
  refine lv_lstore_n hx hb hd rfl hl hn rfl (fun la2 h2 => ?_)
  exact k la2 (lcl_set2 (ls := a0 :: old :: old2 :: t) (i := 1) (v := vl (x)) (by simp) (fun j w e h => by obtain rfl : j = 0 := (by omega); cases h; exact hp) h2)
theorem V_istore_2 {X : ZX} {M : MD} {pc : Nat} {st : List AV} {μ : Mem} {a0 a1 old : AV} {t : List AV} {x : Int} (hd : decode M.1 pc = .ok (.istore_n 2, 1)) (hn : 2 < M.2.2.2.1) (hp : isL a1 = false) (k : V X M (pc + 1) (a0 :: a1 :: vi (x) :: t) st μ) : V X M pc (a0 :: a1 :: old :: t) (vi (x) :: st) μ := by
  obtain ⟨⟨l, dC, dI, ad, ac, sK, sV⟩, p, e, R, s, m, args, below, meth, c, A, cells, slots, Fin⟩ := X
  obtain ⟨cc, own, y, nL, ret, d⟩ := M
  intro C H locs la hP hS hl
  have k := fun la2 h2 => k C H locs la2 hP hS h2
  obtain ⟨hx, hb, hr, hlk, hml, hown, hts, hK, hD, hSX, hc1, hc2, hd1, hd2⟩ := C
  show W p l e R s m args below meth c H locs cells slots Fin (F0 m pc la (.int (Int32.ofInt (x)) :: st.map (cv ad sK)))
  refine lv_istore_n hx hb hd rfl hl hn rfl (fun la2 h2 => ?_)
  exact k la2 (lcl_set1 (ls := a0 :: a1 :: old :: t) (i := 2) (v := vi (x)) (by simp) (fun j w e h => by obtain rfl : j = 1 := (by omega); cases h; exact hp) h2)
theorem V_lstore_2 {X : ZX} {M : MD} {pc : Nat} {st : List AV} {μ : Mem} {a0 a1 old old2 : AV} {t : List AV} {x : Int} (hd : decode M.1 pc = .ok (.lstore_n 2, 1)) (hn : 3 < M.2.2.2.1) (hp : isL a1 = false) (k : V X M (pc + 1) (a0 :: a1 :: vl (x) :: un :: t) st μ) : V X M pc (a0 :: a1 :: old :: old2 :: t) (vl (x) :: st) μ := by
  obtain ⟨⟨l, dC, dI, ad, ac, sK, sV⟩, p, e, R, s, m, args, below, meth, c, A, cells, slots, Fin⟩ := X
  obtain ⟨cc, own, y, nL, ret, d⟩ := M
  intro C H locs la hP hS hl
  have k := fun la2 h2 => k C H locs la2 hP hS h2
  obtain ⟨hx, hb, hr, hlk, hml, hown, hts, hK, hD, hSX, hc1, hc2, hd1, hd2⟩ := C
  show W p l e R s m args below meth c H locs cells slots Fin (F0 m pc la (.long (Int64.ofInt (x)) :: st.map (cv ad sK)))
  refine lv_lstore_n hx hb hd rfl hl hn rfl (fun la2 h2 => ?_)
  exact k la2 (lcl_set2 (ls := a0 :: a1 :: old :: old2 :: t) (i := 2) (v := vl (x)) (by simp) (fun j w e h => by obtain rfl : j = 1 := (by omega); cases h; exact hp) h2)
theorem V_istore_3 {X : ZX} {M : MD} {pc : Nat} {st : List AV} {μ : Mem} {a0 a1 a2 old : AV} {t : List AV} {x : Int} (hd : decode M.1 pc = .ok (.istore_n 3, 1)) (hn : 3 < M.2.2.2.1) (hp : isL a2 = false) (k : V X M (pc + 1) (a0 :: a1 :: a2 :: vi (x) :: t) st μ) : V X M pc (a0 :: a1 :: a2 :: old :: t) (vi (x) :: st) μ := by
  obtain ⟨⟨l, dC, dI, ad, ac, sK, sV⟩, p, e, R, s, m, args, below, meth, c, A, cells, slots, Fin⟩ := X
  obtain ⟨cc, own, y, nL, ret, d⟩ := M
  intro C H locs la hP hS hl
  have k := fun la2 h2 => k C H locs la2 hP hS h2
  obtain ⟨hx, hb, hr, hlk, hml, hown, hts, hK, hD, hSX, hc1, hc2, hd1, hd2⟩ := C
  show W p l e R s m args below meth c H locs cells slots Fin (F0 m pc la (.int (Int32.ofInt (x)) :: st.map (cv ad sK)))
  refine lv_istore_n hx hb hd rfl hl hn rfl (fun la2 h2 => ?_)
  exact k la2 (lcl_set1 (ls := a0 :: a1 :: a2 :: old :: t) (i := 3) (v := vi (x)) (by simp) (fun j w e h => by obtain rfl : j = 2 := (by omega); cases h; exact hp) h2)
theorem V_lstore_3 {X : ZX} {M : MD} {pc : Nat} {st : List AV} {μ : Mem} {a0 a1 a2 old old2 : AV} {t : List AV} {x : Int} (hd : decode M.1 pc = .ok (.lstore_n 3, 1)) (hn : 4 < M.2.2.2.1) (hp : isL a2 = false) (k : V X M (pc + 1) (a0 :: a1 :: a2 :: vl (x) :: un :: t) st μ) : V X M pc (a0 :: a1 :: a2 :: old :: old2 :: t) (vl (x) :: st) μ := by
  obtain ⟨⟨l, dC, dI, ad, ac, sK, sV⟩, p, e, R, s, m, args, below, meth, c, A, cells, slots, Fin⟩ := X
  obtain ⟨cc, own, y, nL, ret, d⟩ := M
  intro C H locs la hP hS hl
  have k := fun la2 h2 => k C H locs la2 hP hS h2
  obtain ⟨hx, hb, hr, hlk, hml, hown, hts, hK, hD, hSX, hc1, hc2, hd1, hd2⟩ := C
  show W p l e R s m args below meth c H locs cells slots Fin (F0 m pc la (.long (Int64.ofInt (x)) :: st.map (cv ad sK)))
  refine lv_lstore_n hx hb hd rfl hl hn rfl (fun la2 h2 => ?_)
  exact k la2 (lcl_set2 (ls := a0 :: a1 :: a2 :: old :: old2 :: t) (i := 3) (v := vl (x)) (by simp) (fun j w e h => by obtain rfl : j = 2 := (by omega); cases h; exact hp) h2)
theorem V_istore_4 {X : ZX} {M : MD} {pc : Nat} {st : List AV} {μ : Mem} {a0 a1 a2 a3 old : AV} {t : List AV} {x : Int} (hd : decode M.1 pc = .ok (.istore 4, 2)) (hn : 4 < M.2.2.2.1) (hp : isL a3 = false) (k : V X M (pc + 2) (a0 :: a1 :: a2 :: a3 :: vi (x) :: t) st μ) : V X M pc (a0 :: a1 :: a2 :: a3 :: old :: t) (vi (x) :: st) μ := by
  obtain ⟨⟨l, dC, dI, ad, ac, sK, sV⟩, p, e, R, s, m, args, below, meth, c, A, cells, slots, Fin⟩ := X
  obtain ⟨cc, own, y, nL, ret, d⟩ := M
  intro C H locs la hP hS hl
  have k := fun la2 h2 => k C H locs la2 hP hS h2
  obtain ⟨hx, hb, hr, hlk, hml, hown, hts, hK, hD, hSX, hc1, hc2, hd1, hd2⟩ := C
  show W p l e R s m args below meth c H locs cells slots Fin (F0 m pc la (.int (Int32.ofInt (x)) :: st.map (cv ad sK)))
  refine lv_istore hx hb hd hl hn rfl (fun la2 h2 => ?_)
  exact k la2 (lcl_set1 (ls := a0 :: a1 :: a2 :: a3 :: old :: t) (i := 4) (v := vi (x)) (by simp) (fun j w e h => by obtain rfl : j = 3 := (by omega); cases h; exact hp) h2)
theorem V_lstore_4 {X : ZX} {M : MD} {pc : Nat} {st : List AV} {μ : Mem} {a0 a1 a2 a3 old old2 : AV} {t : List AV} {x : Int} (hd : decode M.1 pc = .ok (.lstore 4, 2)) (hn : 5 < M.2.2.2.1) (hp : isL a3 = false) (k : V X M (pc + 2) (a0 :: a1 :: a2 :: a3 :: vl (x) :: un :: t) st μ) : V X M pc (a0 :: a1 :: a2 :: a3 :: old :: old2 :: t) (vl (x) :: st) μ := by
  obtain ⟨⟨l, dC, dI, ad, ac, sK, sV⟩, p, e, R, s, m, args, below, meth, c, A, cells, slots, Fin⟩ := X
  obtain ⟨cc, own, y, nL, ret, d⟩ := M
  intro C H locs la hP hS hl
  have k := fun la2 h2 => k C H locs la2 hP hS h2
  obtain ⟨hx, hb, hr, hlk, hml, hown, hts, hK, hD, hSX, hc1, hc2, hd1, hd2⟩ := C
  show W p l e R s m args below meth c H locs cells slots Fin (F0 m pc la (.long (Int64.ofInt (x)) :: st.map (cv ad sK)))
  refine lv_lstore hx hb hd hl hn rfl (fun la2 h2 => ?_)
  exact k la2 (lcl_set2 (ls := a0 :: a1 :: a2 :: a3 :: old :: old2 :: t) (i := 4) (v := vl (x)) (by simp) (fun j w e h => by obtain rfl : j = 3 := (by omega); cases h; exact hp) h2)
theorem V_istore_5 {X : ZX} {M : MD} {pc : Nat} {st : List AV} {μ : Mem} {a0 a1 a2 a3 a4 old : AV} {t : List AV} {x : Int} (hd : decode M.1 pc = .ok (.istore 5, 2)) (hn : 5 < M.2.2.2.1) (hp : isL a4 = false) (k : V X M (pc + 2) (a0 :: a1 :: a2 :: a3 :: a4 :: vi (x) :: t) st μ) : V X M pc (a0 :: a1 :: a2 :: a3 :: a4 :: old :: t) (vi (x) :: st) μ := by
  obtain ⟨⟨l, dC, dI, ad, ac, sK, sV⟩, p, e, R, s, m, args, below, meth, c, A, cells, slots, Fin⟩ := X
  obtain ⟨cc, own, y, nL, ret, d⟩ := M
  intro C H locs la hP hS hl
  have k := fun la2 h2 => k C H locs la2 hP hS h2
  obtain ⟨hx, hb, hr, hlk, hml, hown, hts, hK, hD, hSX, hc1, hc2, hd1, hd2⟩ := C
  show W p l e R s m args below meth c H locs cells slots Fin (F0 m pc la (.int (Int32.ofInt (x)) :: st.map (cv ad sK)))
  refine lv_istore hx hb hd hl hn rfl (fun la2 h2 => ?_)
  exact k la2 (lcl_set1 (ls := a0 :: a1 :: a2 :: a3 :: a4 :: old :: t) (i := 5) (v := vi (x)) (by simp) (fun j w e h => by obtain rfl : j = 4 := (by omega); cases h; exact hp) h2)
theorem V_lstore_5 {X : ZX} {M : MD} {pc : Nat} {st : List AV} {μ : Mem} {a0 a1 a2 a3 a4 old old2 : AV} {t : List AV} {x : Int} (hd : decode M.1 pc = .ok (.lstore 5, 2)) (hn : 6 < M.2.2.2.1) (hp : isL a4 = false) (k : V X M (pc + 2) (a0 :: a1 :: a2 :: a3 :: a4 :: vl (x) :: un :: t) st μ) : V X M pc (a0 :: a1 :: a2 :: a3 :: a4 :: old :: old2 :: t) (vl (x) :: st) μ := by
  obtain ⟨⟨l, dC, dI, ad, ac, sK, sV⟩, p, e, R, s, m, args, below, meth, c, A, cells, slots, Fin⟩ := X
  obtain ⟨cc, own, y, nL, ret, d⟩ := M
  intro C H locs la hP hS hl
  have k := fun la2 h2 => k C H locs la2 hP hS h2
  obtain ⟨hx, hb, hr, hlk, hml, hown, hts, hK, hD, hSX, hc1, hc2, hd1, hd2⟩ := C
  show W p l e R s m args below meth c H locs cells slots Fin (F0 m pc la (.long (Int64.ofInt (x)) :: st.map (cv ad sK)))
  refine lv_lstore hx hb hd hl hn rfl (fun la2 h2 => ?_)
  exact k la2 (lcl_set2 (ls := a0 :: a1 :: a2 :: a3 :: a4 :: old :: old2 :: t) (i := 5) (v := vl (x)) (by simp) (fun j w e h => by obtain rfl : j = 4 := (by omega); cases h; exact hp) h2)
theorem V_istore_6 {X : ZX} {M : MD} {pc : Nat} {st : List AV} {μ : Mem} {a0 a1 a2 a3 a4 a5 old : AV} {t : List AV} {x : Int} (hd : decode M.1 pc = .ok (.istore 6, 2)) (hn : 6 < M.2.2.2.1) (hp : isL a5 = false) (k : V X M (pc + 2) (a0 :: a1 :: a2 :: a3 :: a4 :: a5 :: vi (x) :: t) st μ) : V X M pc (a0 :: a1 :: a2 :: a3 :: a4 :: a5 :: old :: t) (vi (x) :: st) μ := by
  obtain ⟨⟨l, dC, dI, ad, ac, sK, sV⟩, p, e, R, s, m, args, below, meth, c, A, cells, slots, Fin⟩ := X
  obtain ⟨cc, own, y, nL, ret, d⟩ := M
  intro C H locs la hP hS hl
  have k := fun la2 h2 => k C H locs la2 hP hS h2
  obtain ⟨hx, hb, hr, hlk, hml, hown, hts, hK, hD, hSX, hc1, hc2, hd1, hd2⟩ := C
  show W p l e R s m args below meth c H locs cells slots Fin (F0 m pc la (.int (Int32.ofInt (x)) :: st.map (cv ad sK)))
  refine lv_istore hx hb hd hl hn rfl (fun la2 h2 => ?_)
  exact k la2 (lcl_set1 (ls := a0 :: a1 :: a2 :: a3 :: a4 :: a5 :: old :: t) (i := 6) (v := vi (x)) (by simp) (fun j w e h => by obtain rfl : j = 5 := (by omega); cases h; exact hp) h2)
theorem V_lstore_6 {X : ZX} {M : MD} {pc : Nat} {st : List AV} {μ : Mem} {a0 a1 a2 a3 a4 a5 old old2 : AV} {t : List AV} {x : Int} (hd : decode M.1 pc = .ok (.lstore 6, 2)) (hn : 7 < M.2.2.2.1) (hp : isL a5 = false) (k : V X M (pc + 2) (a0 :: a1 :: a2 :: a3 :: a4 :: a5 :: vl (x) :: un :: t) st μ) : V X M pc (a0 :: a1 :: a2 :: a3 :: a4 :: a5 :: old :: old2 :: t) (vl (x) :: st) μ := by
  obtain ⟨⟨l, dC, dI, ad, ac, sK, sV⟩, p, e, R, s, m, args, below, meth, c, A, cells, slots, Fin⟩ := X
  obtain ⟨cc, own, y, nL, ret, d⟩ := M
  intro C H locs la hP hS hl
  have k := fun la2 h2 => k C H locs la2 hP hS h2
  obtain ⟨hx, hb, hr, hlk, hml, hown, hts, hK, hD, hSX, hc1, hc2, hd1, hd2⟩ := C
  show W p l e R s m args below meth c H locs cells slots Fin (F0 m pc la (.long (Int64.ofInt (x)) :: st.map (cv ad sK)))
  refine lv_lstore hx hb hd hl hn rfl (fun la2 h2 => ?_)
  exact k la2 (lcl_set2 (ls := a0 :: a1 :: a2 :: a3 :: a4 :: a5 :: old :: old2 :: t) (i := 6) (v := vl (x)) (by simp) (fun j w e h => by obtain rfl : j = 5 := (by omega); cases h; exact hp) h2)
theorem V_istore_7 {X : ZX} {M : MD} {pc : Nat} {st : List AV} {μ : Mem} {a0 a1 a2 a3 a4 a5 a6 old : AV} {t : List AV} {x : Int} (hd : decode M.1 pc = .ok (.istore 7, 2)) (hn : 7 < M.2.2.2.1) (hp : isL a6 = false) (k : V X M (pc + 2) (a0 :: a1 :: a2 :: a3 :: a4 :: a5 :: a6 :: vi (x) :: t) st μ) : V X M pc (a0 :: a1 :: a2 :: a3 :: a4 :: a5 :: a6 :: old :: t) (vi (x) :: st) μ := by
  obtain ⟨⟨l, dC, dI, ad, ac, sK, sV⟩, p, e, R, s, m, args, below, meth, c, A, cells, slots, Fin⟩ := X
  obtain ⟨cc, own, y, nL, ret, d⟩ := M
  intro C H locs la hP hS hl
  have k := fun la2 h2 => k C H locs la2 hP hS h2
  obtain ⟨hx, hb, hr, hlk, hml, hown, hts, hK, hD, hSX, hc1, hc2, hd1, hd2⟩ := C
  show W p l e R s m args below meth c H locs cells slots Fin (F0 m pc la (.int (Int32.ofInt (x)) :: st.map (cv ad sK)))
  refine lv_istore hx hb hd hl hn rfl (fun la2 h2 => ?_)
  exact k la2 (lcl_set1 (ls := a0 :: a1 :: a2 :: a3 :: a4 :: a5 :: a6 :: old :: t) (i := 7) (v := vi (x)) (by simp) (fun j w e h => by obtain rfl : j = 6 := (by omega); cases h; exact hp) h2)
theorem V_lstore_7 {X : ZX} {M : MD} {pc : Nat} {st : List AV} {μ : Mem} {a0 a1 a2 a3 a4 a5 a6 old old2 : AV} {t : List AV} {x : Int} (hd : decode M.1 pc = .ok (.lstore 7, 2)) (hn : 8 < M.2.2.2.1) (hp : isL a6 = false) (k : V X M (pc + 2) (a0 :: a1 :: a2 :: a3 :: a4 :: a5 :: a6 :: vl (x) :: un :: t) st μ) : V X M pc (a0 :: a1 :: a2 :: a3 :: a4 :: a5 :: a6 :: old :: old2 :: t) (vl (x) :: st) μ := by
  obtain ⟨⟨l, dC, dI, ad, ac, sK, sV⟩, p, e, R, s, m, args, below, meth, c, A, cells, slots, Fin⟩ := X
  obtain ⟨cc, own, y, nL, ret, d⟩ := M
  intro C H locs la hP hS hl
  have k := fun la2 h2 => k C H locs la2 hP hS h2
  obtain ⟨hx, hb, hr, hlk, hml, hown, hts, hK, hD, hSX, hc1, hc2, hd1, hd2⟩ := C
  show W p l e R s m args below meth c H locs cells slots Fin (F0 m pc la (.long (Int64.ofInt (x)) :: st.map (cv ad sK)))
  refine lv_lstore hx hb hd hl hn rfl (fun la2 h2 => ?_)
  exact k la2 (lcl_set2 (ls := a0 :: a1 :: a2 :: a3 :: a4 :: a5 :: a6 :: old :: old2 :: t) (i := 7) (v := vl (x)) (by simp) (fun j w e h => by obtain rfl : j = 6 := (by omega); cases h; exact hp) h2)
theorem V_istore_8 {X : ZX} {M : MD} {pc : Nat} {st : List AV} {μ : Mem} {a0 a1 a2 a3 a4 a5 a6 a7 old : AV} {t : List AV} {x : Int} (hd : decode M.1 pc = .ok (.istore 8, 2)) (hn : 8 < M.2.2.2.1) (hp : isL a7 = false) (k : V X M (pc + 2) (a0 :: a1 :: a2 :: a3 :: a4 :: a5 :: a6 :: a7 :: vi (x) :: t) st μ) : V X M pc (a0 :: a1 :: a2 :: a3 :: a4 :: a5 :: a6 :: a7 :: old :: t) (vi (x) :: st) μ := by
  obtain ⟨⟨l, dC, dI, ad, ac, sK, sV⟩, p, e, R, s, m, args, below, meth, c, A, cells, slots, Fin⟩ := X
  obtain ⟨cc, own, y, nL, ret, d⟩ := M
  intro C H locs la hP hS hl
  have k := fun la2 h2 => k C H locs la2 hP hS h2
  obtain ⟨hx, hb, hr, hlk, hml, hown, hts, hK, hD, hSX, hc1, hc2, hd1, hd2⟩ := C
  show W p l e R s m args below meth c H locs cells slots Fin (F0 m pc la (.int (Int32.ofInt (x)) :: st.map (cv ad sK)))
  refine lv_istore hx hb hd hl hn rfl (fun la2 h2 => ?_)
  exact k la2 (lcl_set1 (ls := a0 :: a1 :: a2 :: a3 :: a4 :: a5 :: a6 :: a7 :: old :: t) (i := 8) (v := vi (x)) (by simp) (fun j w e h => by obtain rfl : j = 7 := (by omega); cases h; exact hp) h2)
theorem V_lstore_8 {X : ZX} {M : MD} {pc : Nat} {st : List AV} {μ : Mem} {a0 a1 a2 a3 a4 a5 a6 a7 old old2 : AV} {t : List AV} {x : Int} (hd : decode M.1 pc = .ok (.lstore 8, 2)) (hn : 9 < M.2.2.2.1) (hp : isL a7 = false) (k : V X M (pc + 2) (a0 :: a1 :: a2 :: a3 :: a4 :: a5 :: a6 :: a7 :: vl (x) :: un :: t) st μ) : V X M pc (a0 :: a1 :: a2 :: a3 :: a4 :: a5 :: a6 :: a7 :: old :: old2 :: t) (vl (x) :: st) μ := by
  obtain ⟨⟨l, dC, dI, ad, ac, sK, sV⟩, p, e, R, s, m, args, below, meth, c, A, cells, slots, Fin⟩ := X
  obtain ⟨cc, own, y, nL, ret, d⟩ := M
  intro C H locs la hP hS hl
  have k := fun la2 h2 => k C H locs la2 hP hS h2
  obtain ⟨hx, hb, hr, hlk, hml, hown, hts, hK, hD, hSX, hc1, hc2, hd1, hd2⟩ := C
  show W p l e R s m args below meth c H locs cells slots Fin (F0 m pc la (.long (Int64.ofInt (x)) :: st.map (cv ad sK)))
  refine lv_lstore hx hb hd hl hn rfl (fun la2 h2 => ?_)
  exact k la2 (lcl_set2 (ls := a0 :: a1 :: a2 :: a3 :: a4 :: a5 :: a6 :: a7 :: old :: old2 :: t) (i := 8) (v := vl (x)) (by simp) (fun j w e h => by obtain rfl : j = 7 := (by omega); cases h; exact hp) h2)
theorem V_istore_9 {X : ZX} {M : MD} {pc : Nat} {st : List AV} {μ : Mem} {a0 a1 a2 a3 a4 a5 a6 a7 a8 old : AV} {t : List AV} {x : Int} (hd : decode M.1 pc = .ok (.istore 9, 2)) (hn : 9 < M.2.2.2.1) (hp : isL a8 = false) (k : V X M (pc + 2) (a0 :: a1 :: a2 :: a3 :: a4 :: a5 :: a6 :: a7 :: a8 :: vi (x) :: t) st μ) : V X M pc (a0 :: a1 :: a2 :: a3 :: a4 :: a5 :: a6 :: a7 :: a8 :: old :: t) (vi (x) :: st) μ := by
  obtain ⟨⟨l, dC, dI, ad, ac, sK, sV⟩, p, e, R, s, m, args, below, meth, c, A, cells, slots, Fin⟩ := X
  obtain ⟨cc, own, y, nL, ret, d⟩ := M
  intro C H locs la hP hS hl
  have k := fun la2 h2 => k C H locs la2 hP hS h2
  obtain ⟨hx, hb, hr, hlk, hml, hown, hts, hK, hD, hSX, hc1, hc2, hd1, hd2⟩ := C
  show W p l e R s m args below meth c H locs cells slots Fin (F0 m pc la (.int (Int32.ofInt (x)) :: st.map (cv ad sK)))
  refine lv_istore hx hb hd hl hn rfl (fun la2 h2 => ?_)
  exact k la2 (lcl_set1 (ls := a0 :: a1 :: a2 :: a3 :: a4 :: a5 :: a6 :: a7 :: a8 :: old :: t) (i := 9) (v := vi (x)) (by simp) (fun j w e h => by obtain rfl : j = 8 := (by omega); cases h; exact hp) h2)
theorem V_lstore_9 {X : ZX} {M : MD} {pc : Nat} {st : List AV} {μ : Mem} {a0 a1 a2 a3 a4 a5 a6 a7 a8 old old2 : AV} {t : List AV} {x : Int} (hd : decode M.1 pc = .ok (.lstore 9, 2)) (hn : 10 < M.2.2.2.1) (hp : isL a8 = false) (k : V X M (pc + 2) (a0 :: a1 :: a2 :: a3 :: a4 :: a5 :: a6 :: a7 :: a8 :: vl (x) :: un :: t) st μ) : V X M pc (a0 :: a1 :: a2 :: a3 :: a4 :: a5 :: a6 :: a7 :: a8 :: old :: old2 :: t) (vl (x) :: st) μ := by
  obtain ⟨⟨l, dC, dI, ad, ac, sK, sV⟩, p, e, R, s, m, args, below, meth, c, A, cells, slots, Fin⟩ := X
  obtain ⟨cc, own, y, nL, ret, d⟩ := M
  intro C H locs la hP hS hl
  have k := fun la2 h2 => k C H locs la2 hP hS h2
  obtain ⟨hx, hb, hr, hlk, hml, hown, hts, hK, hD, hSX, hc1, hc2, hd1, hd2⟩ := C
  show W p l e R s m args below meth c H locs cells slots Fin (F0 m pc la (.long (Int64.ofInt (x)) :: st.map (cv ad sK)))
  refine lv_lstore hx hb hd hl hn rfl (fun la2 h2 => ?_)
  exact k la2 (lcl_set2 (ls := a0 :: a1 :: a2 :: a3 :: a4 :: a5 :: a6 :: a7 :: a8 :: old :: old2 :: t) (i := 9) (v := vl (x)) (by simp) (fun j w e h => by obtain rfl : j = 8 := (by omega); cases h; exact hp) h2)
theorem V_istore_10 {X : ZX} {M : MD} {pc : Nat} {st : List AV} {μ : Mem} {a0 a1 a2 a3 a4 a5 a6 a7 a8 a9 old : AV} {t : List AV} {x : Int} (hd : decode M.1 pc = .ok (.istore 10, 2)) (hn : 10 < M.2.2.2.1) (hp : isL a9 = false) (k : V X M (pc + 2) (a0 :: a1 :: a2 :: a3 :: a4 :: a5 :: a6 :: a7 :: a8 :: a9 :: vi (x) :: t) st μ) : V X M pc (a0 :: a1 :: a2 :: a3 :: a4 :: a5 :: a6 :: a7 :: a8 :: a9 :: old :: t) (vi (x) :: st) μ := by
  obtain ⟨⟨l, dC, dI, ad, ac, sK, sV⟩, p, e, R, s, m, args, below, meth, c, A, cells, slots, Fin⟩ := X
  obtain ⟨cc, own, y, nL, ret, d⟩ := M
  intro C H locs la hP hS hl
  have k := fun la2 h2 => k C H locs la2 hP hS h2
  obtain ⟨hx, hb, hr, hlk, hml, hown, hts, hK, hD, hSX, hc1, hc2, hd1, hd2⟩ := C
  show W p l e R s m args below meth c H locs cells slots Fin (F0 m pc la (.int (Int32.ofInt (x)) :: st.map (cv ad sK)))
  refine lv_istore hx hb hd hl hn rfl (fun la2 h2 => ?_)
  exact k la2 (lcl_set1 (ls := a0 :: a1 :: a2 :: a3 :: a4 :: a5 :: a6 :: a7 :: a8 :: a9 :: old :: t) (i := 10) (v := vi (x)) (by simp) (fun j w e h => by obtain rfl : j = 9 := (by omega); cases h; exact hp) h2)
theorem V_lstore_10 {X : ZX} {M : MD} {pc : Nat} {st : List AV} {μ : Mem} {a0 a1 a2 a3 a4 a5 a6 a7 a8 a9 old old2 : AV} {t : List AV} {x : Int} (hd : decode M.1 pc = .ok (.lstore 10, 2)) (hn : 11 < M.2.2.2.1) (hp : isL a9 = false) (k : V X M (pc + 2) (a0 :: a1 :: a2 :: a3 :: a4 :: a5 :: a6 :: a7 :: a8 :: a9 :: vl (x) :: un :: t) st μ) : V X M pc (a0 :: a1 :: a2 :: a3 :: a4 :: a5 :: a6 :: a7 :: a8 :: a9 :: old :: old2 :: t) (vl (x) :: st) μ := by
  obtain ⟨⟨l, dC, dI, ad, ac, sK, sV⟩, p, e, R, s, m, args, below, meth, c, A, cells, slots, Fin⟩ := X
  obtain ⟨cc, own, y, nL, ret, d⟩ := M
  intro C H locs la hP hS hl
  have k := fun la2 h2 => k C H locs la2 hP hS h2
  obtain ⟨hx, hb, hr, hlk, hml, hown, hts, hK, hD, hSX, hc1, hc2, hd1, hd2⟩ := C
  show W p l e R s m args below meth c H locs cells slots Fin (F0 m pc la (.long (Int64.ofInt (x)) :: st.map (cv ad sK)))
  refine lv_lstore hx hb hd hl hn rfl (fun la2 h2 => ?_)
  exact k la2 (lcl_set2 (ls := a0 :: a1 :: a2 :: a3 :: a4 :: a5 :: a6 :: a7 :: a8 :: a9 :: old :: old2 :: t) (i := 10) (v := vl (x)) (by simp) (fun j w e h => by obtain rfl : j = 9 := (by omega); cases h; exact hp) h2)
theorem V_istore_11 {X : ZX} {M : MD} {pc : Nat} {st : List AV} {μ : Mem} {a0 a1 a2 a3 a4 a5 a6 a7 a8 a9 a10 old : AV} {t : List AV} {x : Int} (hd : decode M.1 pc = .ok (.istore 11, 2)) (hn : 11 < M.2.2.2.1) (hp : isL a10 = false) (k : V X M (pc + 2) (a0 :: a1 :: a2 :: a3 :: a4 :: a5 :: a6 :: a7 :: a8 :: a9 :: a10 :: vi (x) :: t) st μ) : V X M pc (a0 :: a1 :: a2 :: a3 :: a4 :: a5 :: a6 :: a7 :: a8 :: a9 :: a10 :: old :: t) (vi (x) :: st) μ := by
  obtain ⟨⟨l, dC, dI, ad, ac, sK, sV⟩, p, e, R, s, m, args, below, meth, c, A, cells, slots, Fin⟩ := X
  obtain ⟨cc, own, y, nL, ret, d⟩ := M
  intro C H locs la hP hS hl
  have k := fun la2 h2 => k C H locs la2 hP hS h2
  obtain ⟨hx, hb, hr, hlk, hml, hown, hts, hK, hD, hSX, hc1, hc2, hd1, hd2⟩ := C
  show W p l e R s m args below meth c H locs cells slots Fin (F0 m pc la (.int (Int32.ofInt (x)) :: st.map (cv ad sK)))
  refine lv_istore hx hb hd hl hn rfl (fun la2 h2 => ?_)
  exact k la2 (lcl_set1 (ls := a0 :: a1 :: a2 :: a3 :: a4 :: a5 :: a6 :: a7 :: a8 :: a9 :: a10 :: old :: t) (i := 11) (v := vi (x)) (by simp) (fun j w e h => by obtain rfl : j = 10 := (by omega); cases h; exact hp) h2)
theorem V_lstore_11 {X : ZX} {M : MD} {pc : Nat} {st : List AV} {μ : Mem} {a0 a1 a2 a3 a4 a5 a6 a7 a8 a9 a10 old old2 : AV} {t : List AV} {x : Int} (hd : decode M.1 pc = .ok (.lstore 11, 2)) (hn : 12 < M.2.2.2.1) (hp : isL a10 = false) (k : V X M (pc + 2) (a0 :: a1 :: a2 :: a3 :: a4 :: a5 :: a6 :: a7 :: a8 :: a9 :: a10 :: vl (x) :: un :: t) st μ) : V X M pc (a0 :: a1 :: a2 :: a3 :: a4 :: a5 :: a6 :: a7 :: a8 :: a9 :: a10 :: old :: old2 :: t) (vl (x) :: st) μ := by
  obtain ⟨⟨l, dC, dI, ad, ac, sK, sV⟩, p, e, R, s, m, args, below, meth, c, A, cells, slots, Fin⟩ := X
  obtain ⟨cc, own, y, nL, ret, d⟩ := M
  intro C H locs la hP hS hl
  have k := fun la2 h2 => k C H locs la2 hP hS h2
  obtain ⟨hx, hb, hr, hlk, hml, hown, hts, hK, hD, hSX, hc1, hc2, hd1, hd2⟩ := C
  show W p l e R s m args below meth c H locs cells slots Fin (F0 m pc la (.long (Int64.ofInt (x)) :: st.map (cv ad sK)))
  refine lv_lstore hx hb hd hl hn rfl (fun la2 h2 => ?_)
  exact k la2 (lcl_set2 (ls := a0 :: a1 :: a2 :: a3 :: a4 :: a5 :: a6 :: a7 :: a8 :: a9 :: a10 :: old :: old2 :: t) (i := 11) (v := vl (x)) (by simp) (fun j w e h => by obtain rfl : j = 10 := (by omega); cases h; exact hp) h2)
theorem V_istore_12 {X : ZX} {M : MD} {pc : Nat} {st : List AV} {μ : Mem} {a0 a1 a2 a3 a4 a5 a6 a7 a8 a9 a10 a11 old : AV} {t : List AV} {x : Int} (hd : decode M.1 pc = .ok (.istore 12, 2)) (hn : 12 < M.2.2.2.1) (hp : isL a11 = false) (k : V X M (pc + 2) (a0 :: a1 :: a2 :: a3 :: a4 :: a5 :: a6 :: a7 :: a8 :: a9 :: a10 :: a11 :: vi (x) :: t) st μ) : V X M pc (a0 :: a1 :: a2 :: a3 :: a4 :: a5 :: a6 :: a7 :: a8 :: a9 :: a10 :: a11 :: old :: t) (vi (x) :: st) μ := by
  obtain ⟨⟨l, dC, dI, ad, ac, sK, sV⟩, p, e, R, s, m, args, below, meth, c, A, cells, slots, Fin⟩ := X
  obtain ⟨cc, own, y, nL, ret, d⟩ := M
  intro C H locs la hP hS hl
  have k := fun la2 h2 => k C H locs la2 hP hS h2
  obtain ⟨hx, hb, hr, hlk, hml, hown, hts, hK, hD, hSX, hc1, hc2, hd1, hd2⟩ := C
  show W p l e R s m args below meth c H locs cells slots Fin (F0 m pc la (.int (Int32.ofInt (x)) :: st.map (cv ad sK)))
  refine lv_istore hx hb hd hl hn rfl (fun la2 h2 => ?_)
  exact k la2 (lcl_set1 (ls := a0 :: a1 :: a2 :: a3 :: a4 :: a5 :: a6 :: a7 :: a8 :: a9 :: a10 :: a11 :: old :: t) (i := 12) (v := vi (x)) (by simp) (fun j w e h => by obtain rfl : j = 11 := (by omega); cases h; exact hp) h2)
theorem V_lstore_12 {X : ZX} {M : MD} {pc : Nat} {st : List AV} {μ : Mem} {a0 a1 a2 a3 a4 a5 a6 a7 a8 a9 a10 a11 old old2 : AV} {t : List AV} {x : Int} (hd : decode M.1 pc = .ok (.lstore 12, 2)) (hn : 13 < M.2.2.2.1) (hp : isL a11 = false) (k : V X M (pc + 2) (a0 :: a1 :: a2 :: a3 :: a4 :: a5 :: a6 :: a7 :: a8 :: a9 :: a10 :: a11 :: vl (x) :: un :: t) st μ) : V X M pc (a0 :: a1 :: a2 :: a3 :: a4 :: a5 :: a6 :: a7 :: a8 :: a9 :: a10 :: a11 :: old :: old2 :: t) (vl (x) :: st) μ := by
  obtain ⟨⟨l, dC, dI, ad, ac, sK, sV⟩, p, e, R, s, m, args, below, meth, c, A, cells, slots, Fin⟩ := X
  obtain ⟨cc, own, y, nL, ret, d⟩ := M
  intro C H locs la hP hS hl
  have k := fun la2 h2 => k C H locs la2 hP hS h2
  obtain ⟨hx, hb, hr, hlk, hml, hown, hts, hK, hD, hSX, hc1, hc2, hd1, hd2⟩ := C
  show W p l e R s m args below meth c H locs cells slots Fin (F0 m pc la (.long (Int64.ofInt (x)) :: st.map (cv ad sK)))
  refine lv_lstore hx hb hd hl hn rfl (fun la2 h2 => ?_)
  exact k la2 (lcl_set2 (ls := a0 :: a1 :: a2 :: a3 :: a4 :: a5 :: a6 :: a7 :: a8 :: a9 :: a10 :: a11 :: old :: old2 :: t) (i := 12) (v := vl (x)) (by simp) (fun j w e h => by obtain rfl : j = 11 := (by omega); cases h; exact hp) h2)
theorem V_istore_13 {X : ZX} {M : MD} {pc : Nat} {st : List AV} {μ : Mem} {a0 a1 a2 a3 a4 a5 a6 a7 a8 a9 a10 a11 a12 old : AV} {t : List AV} {x : Int} (hd : decode M.1 pc = .ok (.istore 13, 2)) (hn : 13 < M.2.2.2.1) (hp : isL a12 = false) (k : V X M (pc + 2) (a0 :: a1 :: a2 :: a3 :: a4 :: a5 :: a6 :: a7 :: a8 :: a9 :: a10 :: a11 :: a12 :: vi (x) :: t) st μ) : V X M pc (a0 :: a1 :: a2 :: a3 :: a4 :: a5 :: a6 :: a7 :: a8 :: a9 :: a10 :: a11 :: a12 :: old :: t) (vi (x) :: st) μ := by
  obtain ⟨⟨l, dC, dI, ad, ac, sK, sV⟩, p, e, R, s, m, args, below, meth, c, A, cells, slots, Fin⟩ := X
  obtain ⟨cc, own, y, nL, ret, d⟩ := M
  intro C H locs la hP hS hl
  have k := fun la2 h2 => k C H locs la2 hP hS h2
  obtain ⟨hx, hb, hr, hlk, hml, hown, hts, hK, hD, hSX, hc1, hc2, hd1, hd2⟩ := C
  show W p l e R s m args below meth c H locs cells slots Fin (F0 m pc la (.int (Int32.ofInt (x)) :: st.map (cv ad sK)))
  refine lv_istore hx hb hd hl hn rfl (fun la2 h2 => ?_)
  exact k la2 (lcl_set1 (ls := a0 :: a1 :: a2 :: a3 :: a4 :: a5 :: a6 :: a7 :: a8 :: a9 :: a10 :: a11 :: a12 :: old :: t) (i := 13) (v := vi (x)) (by simp) (fun j w e h => by obtain rfl : j = 12 := (by omega); cases h; exact hp) h2)
theorem V_lstore_13 {X : ZX} {M : MD} {pc : Nat} {st : List AV} {μ : Mem} {a0 a1 a2 a3 a4 a5 a6 a7 a8 a9 a10 a11 a12 old old2 : AV} {t : List AV} {x : Int} (hd : decode M.1 pc = .ok (.lstore 13, 2)) (hn : 14 < M.2.2.2.1) (hp : isL a12 = false) (k : V X M (pc + 2) (a0 :: a1 :: a2 :: a3 :: a4 :: a5 :: a6 :: a7 :: a8 :: a9 :: a10 :: a11 :: a12 :: vl (x) :: un :: t) st μ) : V X M pc (a0 :: a1 :: a2 :: a3 :: a4 :: a5 :: a6 :: a7 :: a8 :: a9 :: a10 :: a11 :: a12 :: old :: old2 :: t) (vl (x) :: st) μ := by
  obtain ⟨⟨l, dC, dI, ad, ac, sK, sV⟩, p, e, R, s, m, args, below, meth, c, A, cells, slots, Fin⟩ := X
  obtain ⟨cc, own, y, nL, ret, d⟩ := M
  intro C H locs la hP hS hl
  have k := fun la2 h2 => k C H locs la2 hP hS h2
  obtain ⟨hx, hb, hr, hlk, hml, hown, hts, hK, hD, hSX, hc1, hc2, hd1, hd2⟩ := C
  show W p l e R s m args below meth c H locs cells slots Fin (F0 m pc la (.long (Int64.ofInt (x)) :: st.map (cv ad sK)))
  refine lv_lstore hx hb hd hl hn rfl (fun la2 h2 => ?_)
  exact k la2 (lcl_set2 (ls := a0 :: a1 :: a2 :: a3 :: a4 :: a5 :: a6 :: a7 :: a8 :: a9 :: a10 :: a11 :: a12 :: old :: old2 :: t) (i := 13) (v := vl (x)) (by simp) (fun j w e h => by obtain rfl : j = 12 := (by omega); cases h; exact hp) h2)
theorem V_istore_14 {X : ZX} {M : MD} {pc : Nat} {st : List AV} {μ : Mem} {a0 a1 a2 a3 a4 a5 a6 a7 a8 a9 a10 a11 a12 a13 old : AV} {t : List AV} {x : Int} (hd : decode M.1 pc = .ok (.istore 14, 2)) (hn : 14 < M.2.2.2.1) (hp : isL a13 = false) (k : V X M (pc + 2) (a0 :: a1 :: a2 :: a3 :: a4 :: a5 :: a6 :: a7 :: a8 :: a9 :: a10 :: a11 :: a12 :: a13 :: vi (x) :: t) st μ) : V X M pc (a0 :: a1 :: a2 :: a3 :: a4 :: a5 :: a6 :: a7 :: a8 :: a9 :: a10 :: a11 :: a12 :: a13 :: old :: t) (vi (x) :: st) μ := by
  obtain ⟨⟨l, dC, dI, ad, ac, sK, sV⟩, p, e, R, s, m, args, below, meth, c, A, cells, slots, Fin⟩ := X
  obtain ⟨cc, own, y, nL, ret, d⟩ := M
  intro C H locs la hP hS hl
  have k := fun la2 h2 => k C H locs la2 hP hS h2
  obtain ⟨hx, hb, hr, hlk, hml, hown, hts, hK, hD, hSX, hc1, hc2, hd1, hd2⟩ := C
  show W p l e R s m args below meth c H locs cells slots Fin (F0 m pc la (.int (Int32.ofInt (x)) :: st.map (cv ad sK)))
  refine lv_istore hx hb hd hl hn rfl (fun la2 h2 => ?_)
  exact k la2 (lcl_set1 (ls := a0 :: a1 :: a2 :: a3 :: a4 :: a5 :: a6 :: a7 :: a8 :: a9 :: a10 :: a11 :: a12 :: a13 :: old :: t) (i := 14) (v := vi (x)) (by simp) (fun j w e h => by obtain rfl : j = 13 := (by omega); cases h; exact hp) h2)
theorem V_lstore_14 {X : ZX} {M : MD} {pc : Nat} {st : List AV} {μ : Mem} {a0 a1 a2 a3 a4 a5 a6 a7 a8 a9 a10 a11 a12 a13 old old2 : AV} {t : List AV} {x : Int} (hd : decode M.1 pc = .ok (.lstore 14, 2)) (hn : 15 < M.2.2.2.1) (hp : isL a13 = false) (k : V X M (pc + 2) (a0 :: a1 :: a2 :: a3 :: a4 :: a5 :: a6 :: a7 :: a8 :: a9 :: a10 :: a11 :: a12 :: a13 :: vl (x) :: un :: t) st μ) : V X M pc (a0 :: a1 :: a2 :: a3 :: a4 :: a5 :: a6 :: a7 :: a8 :: a9 :: a10 :: a11 :: a12 :: a13 :: old :: old2 :: t) (vl (x) :: st) μ := by
  obtain ⟨⟨l, dC, dI, ad, ac, sK, sV⟩, p, e, R, s, m, args, below, meth, c, A, cells, slots, Fin⟩ := X
  obtain ⟨cc, own, y, nL, ret, d⟩ := M
  intro C H locs la hP hS hl
  have k := fun la2 h2 => k C H locs la2 hP hS h2
  obtain ⟨hx, hb, hr, hlk, hml, hown, hts, hK, hD, hSX, hc1, hc2, hd1, hd2⟩ := C
  show W p l e R s m args below meth c H locs cells slots Fin (F0 m pc la (.long (Int64.ofInt (x)) :: st.map (cv ad sK)))
  refine lv_lstore hx hb hd hl hn rfl (fun la2 h2 => ?_)
  exact k la2 (lcl_set2 (ls := a0 :: a1 :: a2 :: a3 :: a4 :: a5 :: a6 :: a7 :: a8 :: a9 :: a10 :: a11 :: a12 :: a13 :: old :: old2 :: t) (i := 14) (v := vl (x)) (by simp) (fun j w e h => by obtain rfl : j = 13 := (by omega); cases h; exact hp) h2)
theorem V_astore_1 {X : ZX} {M : MD} {pc : Nat} {st : List AV} {μ : Mem} {a0 old : AV} {t : List AV} {x : Nat} (hd : decode M.1 pc = .ok (.astore_n 1, 1)) (hn : 1 < M.2.2.2.1) (hp : isL a0 = false) (k : V X M (pc + 1) (a0 :: vr x :: t) st μ) : V X M pc (a0 :: old :: t) (vr x :: st) μ := by
  obtain ⟨⟨l, dC, dI, ad, ac, sK, sV⟩, p, e, R, s, m, args, below, meth, c, A, cells, slots, Fin⟩ := X
  obtain ⟨cc, own, y, nL, ret, d⟩ := M
  intro C H locs la hP hS hl
  have k := fun la2 h2 => k C H locs la2 hP hS h2
  obtain ⟨hx, hb, hr, hlk, hml, hown, hts, hK, hD, hSX, hc1, hc2, hd1, hd2⟩ := C
  show W p l e R s m args below meth c H locs cells slots Fin (F0 m pc la (.ref (ad x) :: st.map (cv ad sK)))
  refine lv_astore_n hx hb hd rfl hl hn rfl (fun la2 h2 => ?_)
  exact k la2 (lcl_set1 (ls := a0 :: old :: t) (i := 1) (v := vr x) (by simp) (fun j w e h => by obtain rfl : j = 0 := (by omega); cases h; exact hp) h2)
theorem V_astore_2 {X : ZX} {M : MD} {pc : Nat} {st : List AV} {μ : Mem} {a0 a1 old : AV} {t : List AV} {x : Nat} (hd : decode M.1 pc = .ok (.astore_n 2, 1)) (hn : 2 < M.2.2.2.1) (hp : isL a1 = false) (k : V X M (pc + 1) (a0 :: a1 :: vr x :: t) st μ) : V X M pc (a0 :: a1 :: old :: t) (vr x :: st) μ := by
  obtain ⟨⟨l, dC, dI, ad, ac, sK, sV⟩, p, e, R, s, m, args, below, meth, c, A, cells, slots, Fin⟩ := X
  obtain ⟨cc, own, y, nL, ret, d⟩ := M
  intro C H locs la hP hS hl
  have k := fun la2 h2 => k C H locs la2 hP hS h2
  obtain ⟨hx, hb, hr, hlk, hml, hown, hts, hK, hD, hSX, hc1, hc2, hd1, hd2⟩ := C
  show W p l e R s m args below meth c H locs cells slots Fin (F0 m pc la (.ref (ad x) :: st.map (cv ad sK)))
  refine lv_astore_n hx hb hd rfl hl hn rfl (fun la2 h2 => ?_)
  exact k la2 (lcl_set1 (ls := a0 :: a1 :: old :: t) (i := 2) (v := vr x) (by simp) (fun j w e h => by obtain rfl : j = 1 := (by omega); cases h; exact hp) h2)
theorem V_iinc_0 {X : ZX} {M : MD} {pc : Nat} {st : List AV} {μ : Mem} {t : List AV} {x n : Int} (hd : decode M.1 pc = .ok (.iinc 0 n, 3)) (hn : 0 < M.2.2.2.1)  (k : V X M (pc + 3) (vi (x + n) :: t) st μ) : V X M pc (vi x :: t) st μ := by
  obtain ⟨⟨l, dC, dI, ad, ac, sK, sV⟩, p, e, R, s, m, args, below, meth, c, A, cells, slots, Fin⟩ := X
  obtain ⟨cc, own, y, nL, ret, d⟩ := M
  intro C H locs la hP hS hl
  have k := fun la2 h2 => k C H locs la2 hP hS h2
  obtain ⟨hx, hb, hr, hlk, hml, hown, hts, hK, hD, hSX, hc1, hc2, hd1, hd2⟩ := C
  show W p l e R s m args below meth c H locs cells slots Fin (F0 m pc la (st.map (cv ad sK)))
  obtain ⟨j, hj⟩ := List.getElem?_of_mem ((lcl_mem (vi x :: t) 0).mpr ⟨0, vi x, rfl, rfl, rfl⟩ : (0 + 0, cv ad sK (vi x)) ∈ _)
  refine lv_iinc (v := Int32.ofInt (x + n)) hx hb hd hl (k := j) hj (zi_add x n) hn rfl (fun la2 h2 => ?_)
  exact k la2 (lcl_set1 (ls := vi x :: t) (i := 0) (v := vi (x + n)) (by simp) (fun j w e h => by omega) h2)
theorem V_iinc_1 {X : ZX} {M : MD} {pc : Nat} {st : List AV} {μ : Mem} {a0 : AV} {t : List AV} {x n : Int} (hd : decode M.1 pc = .ok (.iinc 1 n, 3)) (hn : 1 < M.2.2.2.1) (hp : isL a0 = false) (k : V X M (pc + 3) (a0 :: vi (x + n) :: t) st μ) : V X M pc (a0 :: vi x :: t) st μ := by
  obtain ⟨⟨l, dC, dI, ad, ac, sK, sV⟩, p, e, R, s, m, args, below, meth, c, A, cells, slots, Fin⟩ := X
  obtain ⟨cc, own, y, nL, ret, d⟩ := M
  intro C H locs la hP hS hl
  have k := fun la2 h2 => k C H locs la2 hP hS h2
  obtain ⟨hx, hb, hr, hlk, hml, hown, hts, hK, hD, hSX, hc1, hc2, hd1, hd2⟩ := C
  show W p l e R s m args below meth c H locs cells slots Fin (F0 m pc la (st.map (cv ad sK)))
  obtain ⟨j, hj⟩ := List.getElem?_of_mem ((lcl_mem (a0 :: vi x :: t) 0).mpr ⟨1, vi x, rfl, rfl, rfl⟩ : (0 + 1, cv ad sK (vi x)) ∈ _)
  refine lv_iinc (v := Int32.ofInt (x + n)) hx hb hd hl (k := j) hj (zi_add x n) hn rfl (fun la2 h2 => ?_)
  exact k la2 (lcl_set1 (ls := a0 :: vi x :: t) (i := 1) (v := vi (x + n)) (by simp) (fun j w e h => by obtain rfl : j = 0 := (by omega); cases h; exact hp) h2)
theorem V_iinc_2 {X : ZX} {M : MD} {pc : Nat} {st : List AV} {μ : Mem} {a0 a1 : AV} {t : List AV} {x n : Int} (hd : decode M.1 pc = .ok (.iinc 2 n, 3)) (hn : 2 < M.2.2.2.1) (hp : isL a1 = false) (k : V X M (pc + 3) (a0 :: a1 :: vi (x + n) :: t) st μ) : V X M pc (a0 :: a1 :: vi x :: t) st μ := by
  obtain ⟨⟨l, dC, dI, ad, ac, sK, sV⟩, p, e, R, s, m, args, below, meth, c, A, cells, slots, Fin⟩ := X
  obtain ⟨cc, own, y, nL, ret, d⟩ := M
  intro C H locs la hP hS hl
  have k := fun la2 h2 => k C H locs la2 hP hS h2
  obtain ⟨hx, hb, hr, hlk, hml, hown, hts, hK, hD, hSX, hc1, hc2, hd1, hd2⟩ := C
  show W p l e R s m args below meth c H locs cells slots Fin (F0 m pc la (st.map (cv ad sK)))
  obtain ⟨j, hj⟩ := List.getElem?_of_mem ((lcl_mem (a0 :: a1 :: vi x :: t) 0).mpr ⟨2, vi x, rfl, rfl, rfl⟩ : (0 + 2, cv ad sK (vi x)) ∈ _)
  refine lv_iinc (v := Int32.ofInt (x + n)) hx hb hd hl (k := j) hj (zi_add x n) hn rfl (fun la2 h2 => ?_)
  exact k la2 (lcl_set1 (ls := a0 :: a1 :: vi x :: t) (i := 2) (v := vi (x + n)) (by simp) (fun j w e h => by obtain rfl : j = 1 := (by omega); cases h; exact hp) h2)
theorem V_iinc_3 {X : ZX} {M : MD} {pc : Nat} {st : List AV} {μ : Mem} {a0 a1 a2 : AV} {t : List AV} {x n : Int} (hd : decode M.1 pc = .ok (.iinc 3 n, 3)) (hn : 3 < M.2.2.2.1) (hp : isL a2 = false) (k : V X M (pc + 3) (a0 :: a1 :: a2 :: vi (x + n) :: t) st μ) : V X M pc (a0 :: a1 :: a2 :: vi x :: t) st μ := by
  obtain ⟨⟨l, dC, dI, ad, ac, sK, sV⟩, p, e, R, s, m, args, below, meth, c, A, cells, slots, Fin⟩ := X
  obtain ⟨cc, own, y, nL, ret, d⟩ := M
  intro C H locs la hP hS hl
  have k := fun la2 h2 => k C H locs la2 hP hS h2
  obtain ⟨hx, hb, hr, hlk, hml, hown, hts, hK, hD, hSX, hc1, hc2, hd1, hd2⟩ := C
  show W p l e R s m args below meth c H locs cells slots Fin (F0 m pc la (st.map (cv ad sK)))
  obtain ⟨j, hj⟩ := List.getElem?_of_mem ((lcl_mem (a0 :: a1 :: a2 :: vi x :: t) 0).mpr ⟨3, vi x, rfl, rfl, rfl⟩ : (0 + 3, cv ad sK (vi x)) ∈ _)
  refine lv_iinc (v := Int32.ofInt (x + n)) hx hb hd hl (k := j) hj (zi_add x n) hn rfl (fun la2 h2 => ?_)
  exact k la2 (lcl_set1 (ls := a0 :: a1 :: a2 :: vi x :: t) (i := 3) (v := vi (x + n)) (by simp) (fun j w e h => by obtain rfl : j = 2 := (by omega); cases h; exact hp) h2)
theorem V_iinc_4 {X : ZX} {M : MD} {pc : Nat} {st : List AV} {μ : Mem} {a0 a1 a2 a3 : AV} {t : List AV} {x n : Int} (hd : decode M.1 pc = .ok (.iinc 4 n, 3)) (hn : 4 < M.2.2.2.1) (hp : isL a3 = false) (k : V X M (pc + 3) (a0 :: a1 :: a2 :: a3 :: vi (x + n) :: t) st μ) : V X M pc (a0 :: a1 :: a2 :: a3 :: vi x :: t) st μ := by
  obtain ⟨⟨l, dC, dI, ad, ac, sK, sV⟩, p, e, R, s, m, args, below, meth, c, A, cells, slots, Fin⟩ := X
  obtain ⟨cc, own, y, nL, ret, d⟩ := M
  intro C H locs la hP hS hl
  have k := fun la2 h2 => k C H locs la2 hP hS h2
  obtain ⟨hx, hb, hr, hlk, hml, hown, hts, hK, hD, hSX, hc1, hc2, hd1, hd2⟩ := C
  show W p l e R s m args below meth c H locs cells slots Fin (F0 m pc la (st.map (cv ad sK)))
  obtain ⟨j, hj⟩ := List.getElem?_of_mem ((lcl_mem (a0 :: a1 :: a2 :: a3 :: vi x :: t) 0).mpr ⟨4, vi x, rfl, rfl, rfl⟩ : (0 + 4, cv ad sK (vi x)) ∈ _)
  refine lv_iinc (v := Int32.ofInt (x + n)) hx hb hd hl (k := j) hj (zi_add x n) hn rfl (fun la2 h2 => ?_)
  exact k la2 (lcl_set1 (ls := a0 :: a1 :: a2 :: a3 :: vi x :: t) (i := 4) (v := vi (x + n)) (by simp) (fun j w e h => by obtain rfl : j = 3 := (by omega); cases h; exact hp) h2)
theorem V_iinc_5 {X : ZX} {M : MD} {pc : Nat} {st : List AV} {μ : Mem} {a0 a1 a2 a3 a4 : AV} {t : List AV} {x n : Int} (hd : decode M.1 pc = .ok (.iinc 5 n, 3)) (hn : 5 < M.2.2.2.1) (hp : isL a4 = false) (k : V X M (pc + 3) (a0 :: a1 :: a2 :: a3 :: a4 :: vi (x + n) :: t) st μ) : V X M pc (a0 :: a1 :: a2 :: a3 :: a4 :: vi x :: t) st μ := by
  obtain ⟨⟨l, dC, dI, ad, ac, sK, sV⟩, p, e, R, s, m, args, below, meth, c, A, cells, slots, Fin⟩ := X
  obtain ⟨cc, own, y, nL, ret, d⟩ := M
  intro C H locs la hP hS hl
  have k := fun la2 h2 => k C H locs la2 hP hS h2
  obtain ⟨hx, hb, hr, hlk, hml, hown, hts, hK, hD, hSX, hc1, hc2, hd1, hd2⟩ := C
  show W p l e R s m args below meth c H locs cells slots Fin (F0 m pc la (st.map (cv ad sK)))
  obtain ⟨j, hj⟩ := List.getElem?_of_mem ((lcl_mem (a0 :: a1 :: a2 :: a3 :: a4 :: vi x :: t) 0).mpr ⟨5, vi x, rfl, rfl, rfl⟩ : (0 + 5, cv ad sK (vi x)) ∈ _)
  refine lv_iinc (v := Int32.ofInt (x + n)) hx hb hd hl (k := j) hj (zi_add x n) hn rfl (fun la2 h2 => ?_)
  exact k la2 (lcl_set1 (ls := a0 :: a1 :: a2 :: a3 :: a4 :: vi x :: t) (i := 5) (v := vi (x + n)) (by simp) (fun j w e h => by obtain rfl : j = 4 := (by omega); cases h; exact hp) h2)
theorem V_iinc_6 {X : ZX} {M : MD} {pc : Nat} {st : List AV} {μ : Mem} {a0 a1 a2 a3 a4 a5 : AV} {t : List AV} {x n : Int} (hd : decode M.1 pc = .ok (.iinc 6 n, 3)) (hn : 6 < M.2.2.2.1) (hp : isL a5 = false) (k : V X M (pc + 3) (a0 :: a1 :: a2 :: a3 :: a4 :: a5 :: vi (x + n) :: t) st μ) : V X M pc (a0 :: a1 :: a2 :: a3 :: a4 :: a5 :: vi x :: t) st μ := by
  obtain ⟨⟨l, dC, dI, ad, ac, sK, sV⟩, p, e, R, s, m, args, below, meth, c, A, cells, slots, Fin⟩ := X
  obtain ⟨cc, own, y, nL, ret, d⟩ := M
  intro C H locs la hP hS hl
  have k := fun la2 h2 => k C H locs la2 hP hS h2
  obtain ⟨hx, hb, hr, hlk, hml, hown, hts, hK, hD, hSX, hc1, hc2, hd1, hd2⟩ := C
  show W p l e R s m args below meth c H locs cells slots Fin (F0 m pc la (st.map (cv ad sK)))
  obtain ⟨j, hj⟩ := List.getElem?_of_mem ((lcl_mem (a0 :: a1 :: a2 :: a3 :: a4 :: a5 :: vi x :: t) 0).mpr ⟨6, vi x, rfl, rfl, rfl⟩ : (0 + 6, cv ad sK (vi x)) ∈ _)
  refine lv_iinc (v := Int32.ofInt (x + n)) hx hb hd hl (k := j) hj (zi_add x n) hn rfl (fun la2 h2 => ?_)
  exact k la2 (lcl_set1 (ls := a0 :: a1 :: a2 :: a3 :: a4 :: a5 :: vi x :: t) (i := 6) (v := vi (x + n)) (by simp) (fun j w e h => by obtain rfl : j = 5 := (by omega); cases h; exact hp) h2)
theorem V_iinc_7 {X : ZX} {M : MD} {pc : Nat} {st : List AV} {μ : Mem} {a0 a1 a2 a3 a4 a5 a6 : AV} {t : List AV} {x n : Int} (hd : decode M.1 pc = .ok (.iinc 7 n, 3)) (hn : 7 < M.2.2.2.1) (hp : isL a6 = false) (k : V X M (pc + 3) (a0 :: a1 :: a2 :: a3 :: a4 :: a5 :: a6 :: vi (x + n) :: t) st μ) : V X M pc (a0 :: a1 :: a2 :: a3 :: a4 :: a5 :: a6 :: vi x :: t) st μ := by
  obtain ⟨⟨l, dC, dI, ad, ac, sK, sV⟩, p, e, R, s, m, args, below, meth, c, A, cells, slots, Fin⟩ := X
  obtain ⟨cc, own, y, nL, ret, d⟩ := M
  intro C H locs la hP hS hl
  have k := fun la2 h2 => k C H locs la2 hP hS h2
  obtain ⟨hx, hb, hr, hlk, hml, hown, hts, hK, hD, hSX, hc1, hc2, hd1, hd2⟩ := C
  show W p l e R s m args below meth c H locs cells slots Fin (F0 m pc la (st.map (cv ad sK)))
  obtain ⟨j, hj⟩ := List.getElem?_of_mem ((lcl_mem (a0 :: a1 :: a2 :: a3 :: a4 :: a5 :: a6 :: vi x :: t) 0).mpr ⟨7, vi x, rfl, rfl, rfl⟩ : (0 + 7, cv ad sK (vi x)) ∈ _)
  refine lv_iinc (v := Int32.ofInt (x + n)) hx hb hd hl (k := j) hj (zi_add x n) hn rfl (fun la2 h2 => ?_)
  exact k la2 (lcl_set1 (ls := a0 :: a1 :: a2 :: a3 :: a4 :: a5 :: a6 :: vi x :: t) (i := 7) (v := vi (x + n)) (by simp) (fun j w e h => by obtain rfl : j = 6 := (by omega); cases h; exact hp) h2)
theorem V_iinc_8 {X : ZX} {M : MD} {pc : Nat} {st : List AV} {μ : Mem} {a0 a1 a2 a3 a4 a5 a6 a7 : AV} {t : List AV} {x n : Int} (hd : decode M.1 pc = .ok (.iinc 8 n, 3)) (hn : 8 < M.2.2.2.1) (hp : isL a7 = false) (k : V X M (pc + 3) (a0 :: a1 :: a2 :: a3 :: a4 :: a5 :: a6 :: a7 :: vi (x + n) :: t) st μ) : V X M pc (a0 :: a1 :: a2 :: a3 :: a4 :: a5 :: a6 :: a7 :: vi x :: t) st μ := by
  obtain ⟨⟨l, dC, dI, ad, ac, sK, sV⟩, p, e, R, s, m, args, below, meth, c, A, cells, slots, Fin⟩ := X
  obtain ⟨cc, own, y, nL, ret, d⟩ := M
  intro C H locs la hP hS hl
  have k := fun la2 h2 => k C H locs la2 hP hS h2
  obtain ⟨hx, hb, hr, hlk, hml, hown, hts, hK, hD, hSX, hc1, hc2, hd1, hd2⟩ := C
  show W p l e R s m args below meth c H locs cells slots Fin (F0 m pc la (st.map (cv ad sK)))
  obtain ⟨j, hj⟩ := List.getElem?_of_mem ((lcl_mem (a0 :: a1 :: a2 :: a3 :: a4 :: a5 :: a6 :: a7 :: vi x :: t) 0).mpr ⟨8, vi x, rfl, rfl, rfl⟩ : (0 + 8, cv ad sK (vi x)) ∈ _)
  refine lv_iinc (v := Int32.ofInt (x + n)) hx hb hd hl (k := j) hj (zi_add x n) hn rfl (fun la2 h2 => ?_)
  exact k la2 (lcl_set1 (ls := a0 :: a1 :: a2 :: a3 :: a4 :: a5 :: a6 :: a7 :: vi x :: t) (i := 8) (v := vi (x + n)) (by simp) (fun j w e h => by obtain rfl : j = 7 := (by omega); cases h; exact hp) h2)
theorem V_iinc_9 {X : ZX} {M : MD} {pc : Nat} {st : List AV} {μ : Mem} {a0 a1 a2 a3 a4 a5 a6 a7 a8 : AV} {t : List AV} {x n : Int} (hd : decode M.1 pc = .ok (.iinc 9 n, 3)) (hn : 9 < M.2.2.2.1) (hp : isL a8 = false) (k : V X M (pc + 3) (a0 :: a1 :: a2 :: a3 :: a4 :: a5 :: a6 :: a7 :: a8 :: vi (x + n) :: t) st μ) : V X M pc (a0 :: a1 :: a2 :: a3 :: a4 :: a5 :: a6 :: a7 :: a8 :: vi x :: t) st μ := by
  obtain ⟨⟨l, dC, dI, ad, ac, sK, sV⟩, p, e, R, s, m, args, below, meth, c, A, cells, slots, Fin⟩ := X
  obtain ⟨cc, own, y, nL, ret, d⟩ := M
  intro C H locs la hP hS hl
  have k := fun la2 h2 => k C H locs la2 hP hS h2
  obtain ⟨hx, hb, hr, hlk, hml, hown, hts, hK, hD, hSX, hc1, hc2, hd1, hd2⟩ := C
  show W p l e R s m args below meth c H locs cells slots Fin (F0 m pc la (st.map (cv ad sK)))
  obtain ⟨j, hj⟩ := List.getElem?_of_mem ((lcl_mem (a0 :: a1 :: a2 :: a3 :: a4 :: a5 :: a6 :: a7 :: a8 :: vi x :: t) 0).mpr ⟨9, vi x, rfl, rfl, rfl⟩ : (0 + 9, cv ad sK (vi x)) ∈ _)
  refine lv_iinc (v := Int32.ofInt (x + n)) hx hb hd hl (k := j) hj (zi_add x n) hn rfl (fun la2 h2 => ?_)
  exact k la2 (lcl_set1 (ls := a0 :: a1 :: a2 :: a3 :: a4 :: a5 :: a6 :: a7 :: a8 :: vi x :: t) (i := 9) (v := vi (x + n)) (by simp) (fun j w e h => by obtain rfl : j = 8 := (by omega); cases h; exact hp) h2)
theorem V_iinc_10 {X : ZX} {M : MD} {pc : Nat} {st : List AV} {μ : Mem} {a0 a1 a2 a3 a4 a5 a6 a7 a8 a9 : AV} {t : List AV} {x n : Int} (hd : decode M.1 pc = .ok (.iinc 10 n, 3)) (hn : 10 < M.2.2.2.1) (hp : isL a9 = false) (k : V X M (pc + 3) (a0 :: a1 :: a2 :: a3 :: a4 :: a5 :: a6 :: a7 :: a8 :: a9 :: vi (x + n) :: t) st μ) : V X M pc (a0 :: a1 :: a2 :: a3 :: a4 :: a5 :: a6 :: a7 :: a8 :: a9 :: vi x :: t) st μ := by
  obtain ⟨⟨l, dC, dI, ad, ac, sK, sV⟩, p, e, R, s, m, args, below, meth, c, A, cells, slots, Fin⟩ := X
  obtain ⟨cc, own, y, nL, ret, d⟩ := M
  intro C H locs la hP hS hl
  have k := fun la2 h2 => k C H locs la2 hP hS h2
  obtain ⟨hx, hb, hr, hlk, hml, hown, hts, hK, hD, hSX, hc1, hc2, hd1, hd2⟩ := C
  show W p l e R s m args below meth c H locs cells slots Fin (F0 m pc la (st.map (cv ad sK)))
  obtain ⟨j, hj⟩ := List.getElem?_of_mem ((lcl_mem (a0 :: a1 :: a2 :: a3 :: a4 :: a5 :: a6 :: a7 :: a8 :: a9 :: vi x :: t) 0).mpr ⟨10, vi x, rfl, rfl, rfl⟩ : (0 + 10, cv ad sK (vi x)) ∈ _)
  refine lv_iinc (v := Int32.ofInt (x + n)) hx hb hd hl (k := j) hj (zi_add x n) hn rfl (fun la2 h2 => ?_)
  exact k la2 (lcl_set1 (ls := a0 :: a1 :: a2 :: a3 :: a4 :: a5 :: a6 :: a7 :: a8 :: a9 :: vi x :: t) (i := 10) (v := vi (x + n)) (by simp) (fun j w e h => by obtain rfl : j = 9 := (by omega); cases h; exact hp) h2)
theorem V_iinc_11 {X : ZX} {M : MD} {pc : Nat} {st : List AV} {μ : Mem} {a0 a1 a2 a3 a4 a5 a6 a7 a8 a9 a10 : AV} {t : List AV} {x n : Int} (hd : decode M.1 pc = .ok (.iinc 11 n, 3)) (hn : 11 < M.2.2.2.1) (hp : isL a10 = false) (k : V X M (pc + 3) (a0 :: a1 :: a2 :: a3 :: a4 :: a5 :: a6 :: a7 :: a8 :: a9 :: a10 :: vi (x + n) :: t) st μ) : V X M pc (a0 :: a1 :: a2 :: a3 :: a4 :: a5 :: a6 :: a7 :: a8 :: a9 :: a10 :: vi x :: t) st μ := by
  obtain ⟨⟨l, dC, dI, ad, ac, sK, sV⟩, p, e, R, s, m, args, below, meth, c, A, cells, slots, Fin⟩ := X
  obtain ⟨cc, own, y, nL, ret, d⟩ := M
  intro C H locs la hP hS hl
  have k := fun la2 h2 => k C H locs la2 hP hS h2
  obtain ⟨hx, hb, hr, hlk, hml, hown, hts, hK, hD, hSX, hc1, hc2, hd1, hd2⟩ := C
  show W p l e R s m args below meth c H locs cells slots Fin (F0 m pc la (st.map (cv ad sK)))
  obtain ⟨j, hj⟩ := List.getElem?_of_mem ((lcl_mem (a0 :: a1 :: a2 :: a3 :: a4 :: a5 :: a6 :: a7 :: a8 :: a9 :: a10 :: vi x :: t) 0).mpr ⟨11, vi x, rfl, rfl, rfl⟩ : (0 + 11, cv ad sK (vi x)) ∈ _)
  refine lv_iinc (v := Int32.ofInt (x + n)) hx hb hd hl (k := j) hj (zi_add x n) hn rfl (fun la2 h2 => ?_)
  exact k la2 (lcl_set1 (ls := a0 :: a1 :: a2 :: a3 :: a4 :: a5 :: a6 :: a7 :: a8 :: a9 :: a10 :: vi x :: t) (i := 11) (v := vi (x + n)) (by simp) (fun j w e h => by obtain rfl : j = 10 := (by omega); cases h; exact hp) h2)
theorem V_iinc_12 {X : ZX} {M : MD} {pc : Nat} {st : List AV} {μ : Mem} {a0 a1 a2 a3 a4 a5 a6 a7 a8 a9 a10 a11 : AV} {t : List AV} {x n : Int} (hd : decode M.1 pc = .ok (.iinc 12 n, 3)) (hn : 12 < M.2.2.2.1) (hp : isL a11 = false) (k : V X M (pc + 3) (a0 :: a1 :: a2 :: a3 :: a4 :: a5 :: a6 :: a7 :: a8 :: a9 :: a10 :: a11 :: vi (x + n) :: t) st μ) : V X M pc (a0 :: a1 :: a2 :: a3 :: a4 :: a5 :: a6 :: a7 :: a8 :: a9 :: a10 :: a11 :: vi x :: t) st μ := by
  obtain ⟨⟨l, dC, dI, ad, ac, sK, sV⟩, p, e, R, s, m, args, below, meth, c, A, cells, slots, Fin⟩ := X
  obtain ⟨cc, own, y, nL, ret, d⟩ := M
  intro C H locs la hP hS hl
  have k := fun la2 h2 => k C H locs la2 hP hS h2
  obtain ⟨hx, hb, hr, hlk, hml, hown, hts, hK, hD, hSX, hc1, hc2, hd1, hd2⟩ := C
  show W p l e R s m args below meth c H locs cells slots Fin (F0 m pc la (st.map (cv ad sK)))
  obtain ⟨j, hj⟩ := List.getElem?_of_mem ((lcl_mem (a0 :: a1 :: a2 :: a3 :: a4 :: a5 :: a6 :: a7 :: a8 :: a9 :: a10 :: a11 :: vi x :: t) 0).mpr ⟨12, vi x, rfl, rfl, rfl⟩ : (0 + 12, cv ad sK (vi x)) ∈ _)
  refine lv_iinc (v := Int32.ofInt (x + n)) hx hb hd hl (k := j) hj (zi_add x n) hn rfl (fun la2 h2 => ?_)
  exact k la2 (lcl_set1 (ls := a0 :: a1 :: a2 :: a3 :: a4 :: a5 :: a6 :: a7 :: a8 :: a9 :: a10 :: a11 :: vi x :: t) (i := 12) (v := vi (x + n)) (by simp) (fun j w e h => by obtain rfl : j = 11 := (by omega); cases h; exact hp) h2)
theorem V_iinc_13 {X : ZX} {M : MD} {pc : Nat} {st : List AV} {μ : Mem} {a0 a1 a2 a3 a4 a5 a6 a7 a8 a9 a10 a11 a12 : AV} {t : List AV} {x n : Int} (hd : decode M.1 pc = .ok (.iinc 13 n, 3)) (hn : 13 < M.2.2.2.1) (hp : isL a12 = false) (k : V X M (pc + 3) (a0 :: a1 :: a2 :: a3 :: a4 :: a5 :: a6 :: a7 :: a8 :: a9 :: a10 :: a11 :: a12 :: vi (x + n) :: t) st μ) : V X M pc (a0 :: a1 :: a2 :: a3 :: a4 :: a5 :: a6 :: a7 :: a8 :: a9 :: a10 :: a11 :: a12 :: vi x :: t) st μ := by
  obtain ⟨⟨l, dC, dI, ad, ac, sK, sV⟩, p, e, R, s, m, args, below, meth, c, A, cells, slots, Fin⟩ := X
  obtain ⟨cc, own, y, nL, ret, d⟩ := M
  intro C H locs la hP hS hl
  have k := fun la2 h2 => k C H locs la2 hP hS h2
  obtain ⟨hx, hb, hr, hlk, hml, hown, hts, hK, hD, hSX, hc1, hc2, hd1, hd2⟩ := C
  show W p l e R s m args below meth c H locs cells slots Fin (F0 m pc la (st.map (cv ad sK)))
  obtain ⟨j, hj⟩ := List.getElem?_of_mem ((lcl_mem (a0 :: a1 :: a2 :: a3 :: a4 :: a5 :: a6 :: a7 :: a8 :: a9 :: a10 :: a11 :: a12 :: vi x :: t) 0).mpr ⟨13, vi x, rfl, rfl, rfl⟩ : (0 + 13, cv ad sK (vi x)) ∈ _)
  refine lv_iinc (v := Int32.ofInt (x + n)) hx hb hd hl (k := j) hj (zi_add x n) hn rfl (fun la2 h2 => ?_)
  exact k la2 (lcl_set1 (ls := a0 :: a1 :: a2 :: a3 :: a4 :: a5 :: a6 :: a7 :: a8 :: a9 :: a10 :: a11 :: a12 :: vi x :: t) (i := 13) (v := vi (x + n)) (by simp) (fun j w e h => by obtain rfl : j = 12 := (by omega); cases h; exact hp) h2)
theorem V_iinc_14 {X : ZX} {M : MD} {pc : Nat} {st : List AV} {μ : Mem} {a0 a1 a2 a3 a4 a5 a6 a7 a8 a9 a10 a11 a12 a13 : AV} {t : List AV} {x n : Int} (hd : decode M.1 pc = .ok (.iinc 14 n, 3)) (hn : 14 < M.2.2.2.1) (hp : isL a13 = false) (k : V X M (pc + 3) (a0 :: a1 :: a2 :: a3 :: a4 :: a5 :: a6 :: a7 :: a8 :: a9 :: a10 :: a11 :: a12 :: a13 :: vi (x + n) :: t) st μ) : V X M pc (a0 :: a1 :: a2 :: a3 :: a4 :: a5 :: a6 :: a7 :: a8 :: a9 :: a10 :: a11 :: a12 :: a13 :: vi x :: t) st μ := by
  obtain ⟨⟨l, dC, dI, ad, ac, sK, sV⟩, p, e, R, s, m, args, below, meth, c, A, cells, slots, Fin⟩ := X
  obtain ⟨cc, own, y, nL, ret, d⟩ := M
  intro C H locs la hP hS hl
  have k := fun la2 h2 => k C H locs la2 hP hS h2
  obtain ⟨hx, hb, hr, hlk, hml, hown, hts, hK, hD, hSX, hc1, hc2, hd1, hd2⟩ := C
  show W p l e R s m args below meth c H locs cells slots Fin (F0 m pc la (st.map (cv ad sK)))
  obtain ⟨j, hj⟩ := List.getElem?_of_mem ((lcl_mem (a0 :: a1 :: a2 :: a3 :: a4 :: a5 :: a6 :: a7 :: a8 :: a9 :: a10 :: a11 :: a12 :: a13 :: vi x :: t) 0).mpr ⟨14, vi x, rfl, rfl, rfl⟩ : (0 + 14, cv ad sK (vi x)) ∈ _)
  refine lv_iinc (v := Int32.ofInt (x + n)) hx hb hd hl (k := j) hj (zi_add x n) hn rfl (fun la2 h2 => ?_)
  exact k la2 (lcl_set1 (ls := a0 :: a1 :: a2 :: a3 :: a4 :: a5 :: a6 :: a7 :: a8 :: a9 :: a10 :: a11 :: a12 :: a13 :: vi x :: t) (i := 14) (v := vi (x + n)) (by simp) (fun j w e h => by obtain rfl : j = 13 := (by omega); cases h; exact hp) h2)
theorem V_icmp_eq {X : ZX} {M : MD} {pc : Nat} {ls st : List AV} {μ : Mem} {a b off : Int} {tgt : Nat} (hd : decode M.1 pc = .ok (.if_icmp .eq off, 3)) (ht : (pc : Int) + off = (tgt : Int)) (ha : inR a) (hb0 : inR b) (kt : a = b → V X M tgt ls st μ) (kf : ¬ (a = b) → V X M (pc + 3) ls st μ) : V X M pc ls (vi (b) :: vi (a) :: st) μ := by
  obtain ⟨⟨l, dC, dI, ad, ac, sK, sV⟩, p, e, R, s, m, args, below, meth, c, A, cells, slots, Fin⟩ := X
  obtain ⟨cc, own, y, nL, ret, d⟩ := M
  intro C H locs la hP hS hl
  have kt := fun h => kt h C H locs la hP hS hl
  have kf := fun h => kf h C H locs la hP hS hl
  obtain ⟨hx, hb, hr, hlk, hml, hown, hts, hK, hD, hSX, hc1, hc2, hd1, hd2⟩ := C
  show W p l e R s m args below meth c H locs cells slots Fin (F0 m pc la (.int (Int32.ofInt (b)) :: .int (Int32.ofInt (a)) :: st.map (cv ad sK)))
  refine lv_icmp_eq hx hb hd ht (fun h => kt ?_) (fun h => kf ?_)
  · rw [zi_eq ha hb0] at h; exact h
  · rw [zi_eq ha hb0] at h; exact h
theorem V_icmp_ne {X : ZX} {M : MD} {pc : Nat} {ls st : List AV} {μ : Mem} {a b off : Int} {tgt : Nat} (hd : decode M.1 pc = .ok (.if_icmp .ne off, 3)) (ht : (pc : Int) + off = (tgt : Int)) (ha : inR a) (hb0 : inR b) (kt : ¬ a = b → V X M tgt ls st μ) (kf : ¬ (¬ a = b) → V X M (pc + 3) ls st μ) : V X M pc ls (vi (b) :: vi (a) :: st) μ := by
  obtain ⟨⟨l, dC, dI, ad, ac, sK, sV⟩, p, e, R, s, m, args, below, meth, c, A, cells, slots, Fin⟩ := X
  obtain ⟨cc, own, y, nL, ret, d⟩ := M
  intro C H locs la hP hS hl
  have kt := fun h => kt h C H locs la hP hS hl
  have kf := fun h => kf h C H locs la hP hS hl
  obtain ⟨hx, hb, hr, hlk, hml, hown, hts, hK, hD, hSX, hc1, hc2, hd1, hd2⟩ := C
  show W p l e R s m args below meth c H locs cells slots Fin (F0 m pc la (.int (Int32.ofInt (b)) :: .int (Int32.ofInt (a)) :: st.map (cv ad sK)))
  refine lv_icmp_ne hx hb hd ht (fun h => kt ?_) (fun h => kf ?_)
  · rw [zi_eq ha hb0] at h; exact h
  · rw [zi_eq ha hb0] at h; exact fun q => q h
theorem V_icmp_lt {X : ZX} {M : MD} {pc : Nat} {ls st : List AV} {μ : Mem} {a b off : Int} {tgt : Nat} (hd : decode M.1 pc = .ok (.if_icmp .lt off, 3)) (ht : (pc : Int) + off = (tgt : Int)) (ha : inR a) (hb0 : inR b) (kt : a < b → V X M tgt ls st μ) (kf : ¬ (a < b) → V X M (pc + 3) ls st μ) : V X M pc ls (vi (b) :: vi (a) :: st) μ := by
  obtain ⟨⟨l, dC, dI, ad, ac, sK, sV⟩, p, e, R, s, m, args, below, meth, c, A, cells, slots, Fin⟩ := X
  obtain ⟨cc, own, y, nL, ret, d⟩ := M
  intro C H locs la hP hS hl
  have kt := fun h => kt h C H locs la hP hS hl
  have kf := fun h => kf h C H locs la hP hS hl
  obtain ⟨hx, hb, hr, hlk, hml, hown, hts, hK, hD, hSX, hc1, hc2, hd1, hd2⟩ := C
  show W p l e R s m args below meth c H locs cells slots Fin (F0 m pc la (.int (Int32.ofInt (b)) :: .int (Int32.ofInt (a)) :: st.map (cv ad sK)))
  refine lv_icmp_lt hx hb hd ht (fun h => kt ?_) (fun h => kf ?_)
  · rw [zi_lt ha hb0] at h; exact h
  · rw [zi_lt ha hb0] at h; exact h
theorem V_icmp_ge {X : ZX} {M : MD} {pc : Nat} {ls st : List AV} {μ : Mem} {a b off : Int} {tgt : Nat} (hd : decode M.1 pc = .ok (.if_icmp .ge off, 3)) (ht : (pc : Int) + off = (tgt : Int)) (ha : inR a) (hb0 : inR b) (kt : b ≤ a → V X M tgt ls st μ) (kf : ¬ (b ≤ a) → V X M (pc + 3) ls st μ) : V X M pc ls (vi (b) :: vi (a) :: st) μ := by
  obtain ⟨⟨l, dC, dI, ad, ac, sK, sV⟩, p, e, R, s, m, args, below, meth, c, A, cells, slots, Fin⟩ := X
  obtain ⟨cc, own, y, nL, ret, d⟩ := M
  intro C H locs la hP hS hl
  have kt := fun h => kt h C H locs la hP hS hl
  have kf := fun h => kf h C H locs la hP hS hl
  obtain ⟨hx, hb, hr, hlk, hml, hown, hts, hK, hD, hSX, hc1, hc2, hd1, hd2⟩ := C
  show W p l e R s m args below meth c H locs cells slots Fin (F0 m pc la (.int (Int32.ofInt (b)) :: .int (Int32.ofInt (a)) :: st.map (cv ad sK)))
  refine lv_icmp_ge hx hb hd ht (fun h => kt ?_) (fun h => kf ?_)
  · rw [zi_le hb0 ha] at h; exact h
  · rw [zi_le hb0 ha] at h; exact h
theorem V_icmp_gt {X : ZX} {M : MD} {pc : Nat} {ls st : List AV} {μ : Mem} {a b off : Int} {tgt : Nat} (hd : decode M.1 pc = .ok (.if_icmp .gt off, 3)) (ht : (pc : Int) + off = (tgt : Int)) (ha : inR a) (hb0 : inR b) (kt : b < a → V X M tgt ls st μ) (kf : ¬ (b < a) → V X M (pc + 3) ls st μ) : V X M pc ls (vi (b) :: vi (a) :: st) μ := by
  obtain ⟨⟨l, dC, dI, ad, ac, sK, sV⟩, p, e, R, s, m, args, below, meth, c, A, cells, slots, Fin⟩ := X
  obtain ⟨cc, own, y, nL, ret, d⟩ := M
  intro C H locs la hP hS hl
  have kt := fun h => kt h C H locs la hP hS hl
  have kf := fun h => kf h C H locs la hP hS hl
  obtain ⟨hx, hb, hr, hlk, hml, hown, hts, hK, hD, hSX, hc1, hc2, hd1, hd2⟩ := C
  show W p l e R s m args below meth c H locs cells slots Fin (F0 m pc la (.int (Int32.ofInt (b)) :: .int (Int32.ofInt (a)) :: st.map (cv ad sK)))
  refine lv_icmp_gt hx hb hd ht (fun h => kt ?_) (fun h => kf ?_)
  · rw [zi_lt hb0 ha] at h; exact h
  · rw [zi_lt hb0 ha] at h; exact h
theorem V_icmp_le {X : ZX} {M : MD} {pc : Nat} {ls st : List AV} {μ : Mem} {a b off : Int} {tgt : Nat} (hd : decode M.1 pc = .ok (.if_icmp .le off, 3)) (ht : (pc : Int) + off = (tgt : Int)) (ha : inR a) (hb0 : inR b) (kt : a ≤ b → V X M tgt ls st μ) (kf : ¬ (a ≤ b) → V X M (pc + 3) ls st μ) : V X M pc ls (vi (b) :: vi (a) :: st) μ := by
  obtain ⟨⟨l, dC, dI, ad, ac, sK, sV⟩, p, e, R, s, m, args, below, meth, c, A, cells, slots, Fin⟩ := X
  obtain ⟨cc, own, y, nL, ret, d⟩ := M
  intro C H locs la hP hS hl
  have kt := fun h => kt h C H locs la hP hS hl
  have kf := fun h => kf h C H locs la hP hS hl
  obtain ⟨hx, hb, hr, hlk, hml, hown, hts, hK, hD, hSX, hc1, hc2, hd1, hd2⟩ := C
  show W p l e R s m args below meth c H locs cells slots Fin (F0 m pc la (.int (Int32.ofInt (b)) :: .int (Int32.ofInt (a)) :: st.map (cv ad sK)))
  refine lv_icmp_le hx hb hd ht (fun h => kt ?_) (fun h => kf ?_)
  · rw [zi_le ha hb0] at h; exact h
  · rw [zi_le ha hb0] at h; exact h
theorem V_if_eq {X : ZX} {M : MD} {pc : Nat} {ls st : List AV} {μ : Mem} {a off : Int} {tgt : Nat} (hd : decode M.1 pc = .ok (.ifCond .eq off, 3)) (ht : (pc : Int) + off = (tgt : Int)) (ha : inR a) (kt : a = 0 → V X M tgt ls st μ) (kf : ¬ (a = 0) → V X M (pc + 3) ls st μ) : V X M pc ls (vi (a) :: st) μ := by
  obtain ⟨⟨l, dC, dI, ad, ac, sK, sV⟩, p, e, R, s, m, args, below, meth, c, A, cells, slots, Fin⟩ := X
  obtain ⟨cc, own, y, nL, ret, d⟩ := M
  intro C H locs la hP hS hl
  have kt := fun h => kt h C H locs la hP hS hl
  have kf := fun h => kf h C H locs la hP hS hl
  obtain ⟨hx, hb, hr, hlk, hml, hown, hts, hK, hD, hSX, hc1, hc2, hd1, hd2⟩ := C
  show W p l e R s m args below meth c H locs cells slots Fin (F0 m pc la (.int (Int32.ofInt (a)) :: st.map (cv ad sK)))
  refine lv_if_eq hx hb hd ht (fun h => kt ?_) (fun h => kf ?_)
  · rw [zi_0, zi_eq ha inR_0] at h; exact h
  · rw [zi_0, zi_eq ha inR_0] at h; exact h
theorem V_if_ne {X : ZX} {M : MD} {pc : Nat} {ls st : List AV} {μ : Mem} {a off : Int} {tgt : Nat} (hd : decode M.1 pc = .ok (.ifCond .ne off, 3)) (ht : (pc : Int) + off = (tgt : Int)) (ha : inR a) (kt : ¬ a = 0 → V X M tgt ls st μ) (kf : ¬ (¬ a = 0) → V X M (pc + 3) ls st μ) : V X M pc ls (vi (a) :: st) μ := by
  obtain ⟨⟨l, dC, dI, ad, ac, sK, sV⟩, p, e, R, s, m, args, below, meth, c, A, cells, slots, Fin⟩ := X
  obtain ⟨cc, own, y, nL, ret, d⟩ := M
  intro C H locs la hP hS hl
  have kt := fun h => kt h C H locs la hP hS hl
  have kf := fun h => kf h C H locs la hP hS hl
  obtain ⟨hx, hb, hr, hlk, hml, hown, hts, hK, hD, hSX, hc1, hc2, hd1, hd2⟩ := C
  show W p l e R s m args below meth c H locs cells slots Fin (F0 m pc la (.int (Int32.ofInt (a)) :: st.map (cv ad sK)))
  refine lv_if_ne hx hb hd ht (fun h => kt ?_) (fun h => kf ?_)
  · rw [zi_0, zi_eq ha inR_0] at h; exact h
  · rw [zi_0, zi_eq ha inR_0] at h; exact fun q => q h
theorem V_if_lt {X : ZX} {M : MD} {pc : Nat} {ls st : List AV} {μ : Mem} {a off : Int} {tgt : Nat} (hd : decode M.1 pc = .ok (.ifCond .lt off, 3)) (ht : (pc : Int) + off = (tgt : Int)) (ha : inR a) (kt : a < 0 → V X M tgt ls st μ) (kf : ¬ (a < 0) → V X M (pc + 3) ls st μ) : V X M pc ls (vi (a) :: st) μ := by
  obtain ⟨⟨l, dC, dI, ad, ac, sK, sV⟩, p, e, R, s, m, args, below, meth, c, A, cells, slots, Fin⟩ := X
  obtain ⟨cc, own, y, nL, ret, d⟩ := M
  intro C H locs la hP hS hl
  have kt := fun h => kt h C H locs la hP hS hl
  have kf := fun h => kf h C H locs la hP hS hl
  obtain ⟨hx, hb, hr, hlk, hml, hown, hts, hK, hD, hSX, hc1, hc2, hd1, hd2⟩ := C
  show W p l e R s m args below meth c H locs cells slots Fin (F0 m pc la (.int (Int32.ofInt (a)) :: st.map (cv ad sK)))
  refine lv_if_lt hx hb hd ht (fun h => kt ?_) (fun h => kf ?_)
  · rw [zi_0, zi_lt ha inR_0] at h; exact h
  · rw [zi_0, zi_lt ha inR_0] at h; exact h
theorem V_if_ge {X : ZX} {M : MD} {pc : Nat} {ls st : List AV} {μ : Mem} {a off : Int} {tgt : Nat} (hd : decode M.1 pc = .ok (.ifCond .ge off, 3)) (ht : (pc : Int) + off = (tgt : Int)) (ha : inR a) (kt : 0 ≤ a → V X M tgt ls st μ) (kf : ¬ (0 ≤ a) → V X M (pc + 3) ls st μ) : V X M pc ls (vi (a) :: st) μ := by
  obtain ⟨⟨l, dC, dI, ad, ac, sK, sV⟩, p, e, R, s, m, args, below, meth, c, A, cells, slots, Fin⟩ := X
  obtain ⟨cc, own, y, nL, ret, d⟩ := M
  intro C H locs la hP hS hl
  have kt := fun h => kt h C H locs la hP hS hl
  have kf := fun h => kf h C H locs la hP hS hl
  obtain ⟨hx, hb, hr, hlk, hml, hown, hts, hK, hD, hSX, hc1, hc2, hd1, hd2⟩ := C
  show W p l e R s m args below meth c H locs cells slots Fin (F0 m pc la (.int (Int32.ofInt (a)) :: st.map (cv ad sK)))
  refine lv_if_ge hx hb hd ht (fun h => kt ?_) (fun h => kf ?_)
  · rw [zi_0, zi_le inR_0 ha] at h; exact h
  · rw [zi_0, zi_le inR_0 ha] at h; exact h
theorem V_if_gt {X : ZX} {M : MD} {pc : Nat} {ls st : List AV} {μ : Mem} {a off : Int} {tgt : Nat} (hd : decode M.1 pc = .ok (.ifCond .gt off, 3)) (ht : (pc : Int) + off = (tgt : Int)) (ha : inR a) (kt : 0 < a → V X M tgt ls st μ) (kf : ¬ (0 < a) → V X M (pc + 3) ls st μ) : V X M pc ls (vi (a) :: st) μ := by
  obtain ⟨⟨l, dC, dI, ad, ac, sK, sV⟩, p, e, R, s, m, args, below, meth, c, A, cells, slots, Fin⟩ := X
  obtain ⟨cc, own, y, nL, ret, d⟩ := M
  intro C H locs la hP hS hl
  have kt := fun h => kt h C H locs la hP hS hl
  have kf := fun h => kf h C H locs la hP hS hl
  obtain ⟨hx, hb, hr, hlk, hml, hown, hts, hK, hD, hSX, hc1, hc2, hd1, hd2⟩ := C
  show W p l e R s m args below meth c H locs cells slots Fin (F0 m pc la (.int (Int32.ofInt (a)) :: st.map (cv ad sK)))
  refine lv_if_gt hx hb hd ht (fun h => kt ?_) (fun h => kf ?_)
  · rw [zi_0, zi_lt inR_0 ha] at h; exact h
  · rw [zi_0, zi_lt inR_0 ha] at h; exact h
theorem V_if_le {X : ZX} {M : MD} {pc : Nat} {ls st : List AV} {μ : Mem} {a off : Int} {tgt : Nat} (hd : decode M.1 pc = .ok (.ifCond .le off, 3)) (ht : (pc : Int) + off = (tgt : Int)) (ha : inR a) (kt : a ≤ 0 → V X M tgt ls st μ) (kf : ¬ (a ≤ 0) → V X M (pc + 3) ls st μ) : V X M pc ls (vi (a) :: st) μ := by
  obtain ⟨⟨l, dC, dI, ad, ac, sK, sV⟩, p, e, R, s, m, args, below, meth, c, A, cells, slots, Fin⟩ := X
  obtain ⟨cc, own, y, nL, ret, d⟩ := M
  intro C H locs la hP hS hl
  have kt := fun h => kt h C H locs la hP hS hl
  have kf := fun h => kf h C H locs la hP hS hl
  obtain ⟨hx, hb, hr, hlk, hml, hown, hts, hK, hD, hSX, hc1, hc2, hd1, hd2⟩ := C
  show W p l e R s m args below meth c H locs cells slots Fin (F0 m pc la (.int (Int32.ofInt (a)) :: st.map (cv ad sK)))
  refine lv_if_le hx hb hd ht (fun h => kt ?_) (fun h => kf ?_)
  · rw [zi_0, zi_le ha inR_0] at h; exact h
  · rw [zi_0, zi_le ha inR_0] at h; exact h
theorem V_goto {X : ZX} {M : MD} {pc : Nat} {ls st : List AV} {μ : Mem} {off : Int} {tgt : Nat} (hd : decode M.1 pc = .ok (.goto off, 3)) (ht : (pc : Int) + off = (tgt : Int)) (k : V X M tgt ls st μ) : V X M pc ls st μ := by
  obtain ⟨⟨l, dC, dI, ad, ac, sK, sV⟩, p, e, R, s, m, args, below, meth, c, A, cells, slots, Fin⟩ := X
  obtain ⟨cc, own, y, nL, ret, d⟩ := M
  intro C H locs la hP hS hl
  have k := k C H locs la hP hS hl
  obtain ⟨hx, hb, hr, hlk, hml, hown, hts, hK, hD, hSX, hc1, hc2, hd1, hd2⟩ := C
  exact lv_goto hx hb hd ht k
theorem V_tabIn {X : ZX} {M : MD} {pc : Nat} {ls st : List AV} {μ : Mem} {x dflt lo hi off : Int} {offs : Array Int} {len tgt : Nat} (hd : decode M.1 pc = .ok (.tableswitch dflt lo hi offs, len)) (hx0 : inR x) (h1 : lo ≤ x) (h2 : x ≤ hi) (ho : offs[(x - lo).toNat]? = some off) (ht : (pc : Int) + off = (tgt : Int)) (k : V X M tgt ls st μ) : V X M pc ls (vi x :: st) μ := by
  obtain ⟨⟨l, dC, dI, ad, ac, sK, sV⟩, p, e, R, s, m, args, below, meth, c, A, cells, slots, Fin⟩ := X
  obtain ⟨cc, own, y, nL, ret, d⟩ := M
  intro C H locs la hP hS hl
  have k := k C H locs la hP hS hl
  obtain ⟨hx, hb, hr, hlk, hml, hown, hts, hK, hD, hSX, hc1, hc2, hd1, hd2⟩ := C
  refine lv_tableIn (x := Int32.ofInt x) hx hb hd (by rw [zi_to hx0]; omega) (by rw [zi_to hx0]; omega) (by rw [zi_to hx0]; exact ho) ht k
theorem V_tabOut {X : ZX} {M : MD} {pc : Nat} {ls st : List AV} {μ : Mem} {x dflt lo hi : Int} {offs : Array Int} {len tgt : Nat} (hd : decode M.1 pc = .ok (.tableswitch dflt lo hi offs, len)) (hx0 : inR x) (h1 : x < lo ∨ hi < x) (ht : (pc : Int) + dflt = (tgt : Int)) (k : V X M tgt ls st μ) : V X M pc ls (vi x :: st) μ := by
  obtain ⟨⟨l, dC, dI, ad, ac, sK, sV⟩, p, e, R, s, m, args, below, meth, c, A, cells, slots, Fin⟩ := X
  obtain ⟨cc, own, y, nL, ret, d⟩ := M
  intro C H locs la hP hS hl
  have k := k C H locs la hP hS hl
  obtain ⟨hx, hb, hr, hlk, hml, hown, hts, hK, hD, hSX, hc1, hc2, hd1, hd2⟩ := C
  refine lv_tableOut (x := Int32.ofInt x) hx hb hd (by rw [zi_to hx0]; exact h1) ht k

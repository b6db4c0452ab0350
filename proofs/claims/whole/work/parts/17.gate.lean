theorem zMetF {l : Launch} {y : MethodName} {ws ws' : List Cond} {rm : Room} {Pc : Array Value → State → Prop} {Qc : Array Value → State → Outcome → State → Prop} {mc ms : Nat} {free : Addr → Prop} {cc : ByteArray} {maxL : Nat} {ret : Option FieldType}
    (hy : plainFor y = true) (hw : ws = Cond.code y cc maxL ret :: ws')
    (body : ∀ p e s m args below meth c s₁, BodyLoose p l y (headSpec ws rm) cc maxL ret e s m args below meth c s₁ → c.maxLocals = maxL → Pc args s →
      W p l e (headSpec ws rm).room s m args below meth c s.heap [] 0 0 (MQ below Qc args s mc ms free) (entryFrame m args maxL)) : Met l y ws rm Pc Qc mc ms free := by
  refine MetFree.of_bodySF (code := cc) (maxLocals := maxL) (ret := ret) hy ?_ ?_
  · intro args s m h hn
    obtain ⟨meth, c, h1, h2, h3, h4, h5, h6, -, -⟩ := Cond.code_spec hn (atoms_spec (ws := ws) h _ (by rw [hw]; exact List.mem_cons_self))
    exact ⟨meth, c, h1, h2, h3, h4, h5, h6⟩
  · intro p e s m args below meth c s₁ B hml hP _
    have hh0 : s₁.heap = s.heap := by rw [B.state]; rfl
    obtain ⟨t, a1, o, b1, b2, b3⟩ := body p e s m args below meth c s₁ B hml hP s₁ hh0 (Stand.of_body B)
    exact ⟨t, o, a1, b1, b2, ⟨b3.1, b3.2⟩⟩
theorem es_sub (ad sK : Nat → Nat) : ∀ (As : List AV) (i n : Nat), ∀ q ∈ lcl ad sK i (es As ++ List.replicate n un), q ∈ lv_args i (As.map (cv ad sK)) := by
  intro As
  induction As with
  | nil =>
    intro i n q hq
    rw [es_args ad sK [] i n (fun v hv => by cases hv)] at hq
    exact hq
  | cons v t ih =>
    intro i n q hq
    have hu2 : isU un = true := rfl
    cases hL : isL v with
    | false =>
      simp only [es, hL, Bool.false_eq_true, ↓reduceIte, List.cons_append, lcl] at hq
      simp only [List.map_cons, lv_args, cv_cat, hL, Bool.false_eq_true, ↓reduceIte]
      cases hv : isU v with
      | false =>
        rw [hv] at hq
        simp only [Bool.false_eq_true, ↓reduceIte] at hq
        rcases List.mem_cons.mp hq with h | h
        · rw [h]; exact List.mem_cons_self
        · exact List.mem_cons_of_mem _ (ih _ _ _ h)
      | true =>
        rw [hv] at hq
        simp only [↓reduceIte] at hq
        exact List.mem_cons_of_mem _ (ih _ _ _ hq)
    | true =>
      have hv : isU v = false := by rcases v with x | x | x | x | x <;> first | rfl | cases hL
      simp only [es, hL, ↓reduceIte, List.cons_append, lcl, hv, Bool.false_eq_true, hu2] at hq
      simp only [List.map_cons, lv_args, cv_cat, hL, ↓reduceIte]
      rcases List.mem_cons.mp hq with h | h
      · rw [h]; exact List.mem_cons_self
      · exact List.mem_cons_of_mem _ (ih _ _ _ h)
theorem SP_introF {M : MD} {As ls : List AV} {μ : Mem} {Q : AV → Mem → Prop} (hy : plainFor M.2.2.1 = true) (ho : M.2.2.1.cls = M.2.1) (hn : (es As).length ≤ M.2.2.2.1) (hls : es As ++ List.replicate (M.2.2.2.1 - (es As).length) un = ls)
    (h : ∀ X, isM X Q → V X M 0 ls [] μ) : SP M As μ Q := by
  obtain ⟨cc, own, y, nL, ret, d⟩ := M
  intro l dC dI ad ac sK sV
  refine zMetF (cc := cc) (maxL := nL) (ret := ret) hy rfl ?_
  intro p e s m args below meth c s₁ B hml hv
  obtain ⟨rfl, hP, hK, hD, hSX⟩ := hv
  have hts := atoms_spec (ws := Cond.code y cc nL ret :: TB) B.pre
  have hown : s.vm.findClass own = some m.cls := by rw [← show y.cls = own from ho]; exact findClass_of_methodNamed B.named
  have hl := lv_entry (As.map (cv ad sK)) (n := nL) (by rw [es_len]; exact hn)
  rw [lg_entry_eq]
  refine h ⟨⟨l, dC, dI, ad, ac, sK, sV⟩, p, e, zrm d, s, m, _, below, meth, c, wA ad, 0, 0, _⟩ ⟨rfl, rfl, rfl, rfl⟩ ⟨B.exec, B.bytes, B.returns, B.notSynchronized, hml, hown, fun w hw => hts w (List.mem_cons_of_mem _ hw), hK, hD, hSX, Nat.zero_le _, Nat.zero_le _, Nat.le_refl _, Nat.le_refl _⟩ s.heap [] _ hP va_S.rf ?_
  rw [← hls]
  exact ⟨hl.1, hl.2.1, fun q hq => hl.2.2 q (es_sub ad sK As 0 _ q hq)⟩

theorem V_ldcS0 {X : ZX} {M : MD} {pc : Nat} {ls st : List AV} {μ : Mem} (hd : decode M.1 pc = .ok (.ldc 52, 2)) (ho : M.2.1 = RX7) (kk : V X M (pc + 2) ls (vs 0 :: st) μ) : V X M pc ls st μ := by
  obtain ⟨⟨l, dC, dI, ad, ac, sK, sV⟩, p, e, R, s, m, args, below, meth, c, A, cells, slots, Fin⟩ := X
  obtain ⟨cc, own, y, nL, ret, d⟩ := M
  intro C H locs la hP hS hl
  have k0 := kk C H locs la hP hS hl
  obtain ⟨hx, hb, hr, hlk, hml, hown, hts, hK, hD, hSX, hc1, hc2, hd1, hd2⟩ := C
  dsimp only at ho
  subst ho
  exact va_ldcS hx hb hown hSX.2.1.1 hd k0

theorem V_ldcS1 {X : ZX} {M : MD} {pc : Nat} {ls st : List AV} {μ : Mem} (hd : decode M.1 pc = .ok (.ldc 64, 2)) (ho : M.2.1 = RX7) (kk : V X M (pc + 2) ls (vs 1 :: st) μ) : V X M pc ls st μ := by
  obtain ⟨⟨l, dC, dI, ad, ac, sK, sV⟩, p, e, R, s, m, args, below, meth, c, A, cells, slots, Fin⟩ := X
  obtain ⟨cc, own, y, nL, ret, d⟩ := M
  intro C H locs la hP hS hl
  have k0 := kk C H locs la hP hS hl
  obtain ⟨hx, hb, hr, hlk, hml, hown, hts, hK, hD, hSX, hc1, hc2, hd1, hd2⟩ := C
  dsimp only at ho
  subst ho
  exact va_ldcS hx hb hown hSX.2.1.2.1 hd k0

theorem V_ldcS2 {X : ZX} {M : MD} {pc : Nat} {ls st : List AV} {μ : Mem} (hd : decode M.1 pc = .ok (.ldc 69, 2)) (ho : M.2.1 = RX7) (kk : V X M (pc + 2) ls (vs 2 :: st) μ) : V X M pc ls st μ := by
  obtain ⟨⟨l, dC, dI, ad, ac, sK, sV⟩, p, e, R, s, m, args, below, meth, c, A, cells, slots, Fin⟩ := X
  obtain ⟨cc, own, y, nL, ret, d⟩ := M
  intro C H locs la hP hS hl
  have k0 := kk C H locs la hP hS hl
  obtain ⟨hx, hb, hr, hlk, hml, hown, hts, hK, hD, hSX, hc1, hc2, hd1, hd2⟩ := C
  dsimp only at ho
  subst ho
  exact va_ldcS hx hb hown hSX.2.1.2.2 hd k0

def slN (j : Nat) : Nat := ([6, 4, 4] : List Nat).getD j 0
def wB (j i : Nat) : Int := ((sxB.getD j []).getD i 0).toInt
theorem slN_eq : ∀ j, j < 3 → Int32.ofNat (([6, 4, 4] : List Nat).getD j 0) = Int32.ofInt (slN j) := by decide +kernel
theorem slN_le (j : Nat) : slN j ≤ 6 := by
  rcases j with _ | _ | _ | j <;> simp [slN]

theorem t_value : Cond.fieldLink RJ0 9 "java/lang/String" "value" "[B" ∈ TB := (tb_of 1500 (by decide +kernel) (by decide +kernel))

theorem t_coder : Cond.fieldLink RJ0 15 "java/lang/String" "coder" "B" ∈ TB := (tb_of 1501 (by decide +kernel) (by decide +kernel))

theorem t_compact : Cond.fieldLink RJ0 38 "java/lang/String" "COMPACT_STRINGS" "Z" ∈ TB := (tb_of 417 (by decide +kernel) (by decide +kernel))

theorem t_form : Cond.fieldLink RJ0 1053 "jdk/internal/util/Preconditions" "SIOOBE_FORMATTER" "Ljava/util/function/BiFunction;" ∈ TB := (tb_of 433 (by decide +kernel) (by decide +kernel))

theorem V_sval {X : ZX} {M : MD} {pc : Nat} {ls st : List AV} {μ : Mem} {j : Nat} (hd : decode M.1 pc = .ok (.getfield 9, 3)) (ho : M.2.1 = RJ0) (hj : j < 3) (kk : V X M (pc + 3) ls (vs (j + 3) :: st) μ) : V X M pc ls (vs j :: st) μ := by
  obtain ⟨⟨l, dC, dI, ad, ac, sK, sV⟩, p, e, R, s, m, args, below, meth, c, A, cells, slots, Fin⟩ := X
  obtain ⟨cc, own, y, nL, ret, d⟩ := M
  intro C H locs la hP hS hl
  have k0 := kk C H locs la hP hS hl
  obtain ⟨hx, hb, hr, hlk, hml, hown, hts, hK, hD, hSX, hc1, hc2, hd1, hd2⟩ := C
  dsimp only at ho
  subst ho
  exact vk_getf hx hb (hSX.1.1 j hj).2.2.1 hS hown (hts _ t_value) (fun _ h => h) hd k0

theorem V_scod {X : ZX} {M : MD} {pc : Nat} {ls st : List AV} {μ : Mem} {j : Nat} (hd : decode M.1 pc = .ok (.getfield 15, 3)) (ho : M.2.1 = RJ0) (hj : j < 3) (kk : V X M (pc + 3) ls (vi 0 :: st) μ) : V X M pc ls (vs j :: st) μ := by
  obtain ⟨⟨l, dC, dI, ad, ac, sK, sV⟩, p, e, R, s, m, args, below, meth, c, A, cells, slots, Fin⟩ := X
  obtain ⟨cc, own, y, nL, ret, d⟩ := M
  intro C H locs la hP hS hl
  have k0 := kk C H locs la hP hS hl
  obtain ⟨hx, hb, hr, hlk, hml, hown, hts, hK, hD, hSX, hc1, hc2, hd1, hd2⟩ := C
  dsimp only at ho
  subst ho
  exact vk_getf hx hb (hSX.1.1 j hj).2.1 hS hown (hts _ t_coder) (fun _ h => h) hd k0

theorem V_slen {X : ZX} {M : MD} {pc : Nat} {ls st : List AV} {μ : Mem} {j : Nat} (hd : decode M.1 pc = .ok (.arraylength, 1)) (hj : j < 3) (kk : V X M (pc + 1) ls (vi (slN j) :: st) μ) : V X M pc ls (vs (j + 3) :: st) μ := by
  obtain ⟨⟨l, dC, dI, ad, ac, sK, sV⟩, p, e, R, s, m, args, below, meth, c, A, cells, slots, Fin⟩ := X
  obtain ⟨cc, own, y, nL, ret, d⟩ := M
  intro C H locs la hP hS hl
  have k0 := kk C H locs la hP hS hl
  obtain ⟨hx, hb, hr, hlk, hml, hown, hts, hK, hD, hSX, hc1, hc2, hd1, hd2⟩ := C
  exact va_tlen hx hb (hSX.1.1 j hj).2.2.2 hS (slN_eq j hj) hd k0

theorem V_sbal {X : ZX} {M : MD} {pc : Nat} {ls st : List AV} {μ : Mem} {j : Nat} {i : Int} (hd : decode M.1 pc = .ok (.baload, 1)) (hj : j < 3) (h0 : 0 ≤ i) (hn : i < slN j) (kk : V X M (pc + 1) ls (vi (wB j i.toNat) :: st) μ) : V X M pc ls (vi i :: vs (j + 3) :: st) μ := by
  obtain ⟨⟨l, dC, dI, ad, ac, sK, sV⟩, p, e, R, s, m, args, below, meth, c, A, cells, slots, Fin⟩ := X
  obtain ⟨cc, own, y, nL, ret, d⟩ := M
  intro C H locs la hP hS hl
  have k0 := kk C H locs la hP hS hl
  obtain ⟨hx, hb, hr, hlk, hml, hown, hts, hK, hD, hSX, hc1, hc2, hd1, hd2⟩ := C
  obtain ⟨j1, j2⟩ := zi_ix h0 hn (by have := slN_le j; omega)
  refine va_tb (i := Int32.ofInt i) hx hb (hSX.1.1 j hj).2.2.2 hS j1 (v := .int (Int32.ofInt (wB j i.toNat))) ?_ hd k0
  show Value.int _ = _
  rw [j2, wB, zi_of]

theorem V_gets1 {X : ZX} {M : MD} {pc : Nat} {ls st : List AV} {μ : Mem} (hd : decode M.1 pc = .ok (.getstatic 38, 3)) (ho : M.2.1 = RJ0) (kk : V X M (pc + 3) ls (vi 1 :: st) μ) : V X M pc ls st μ := by
  obtain ⟨⟨l, dC, dI, ad, ac, sK, sV⟩, p, e, R, s, m, args, below, meth, c, A, cells, slots, Fin⟩ := X
  obtain ⟨cc, own, y, nL, ret, d⟩ := M
  intro C H locs la hP hS hl
  have k0 := kk C H locs la hP hS hl
  obtain ⟨hx, hb, hr, hlk, hml, hown, hts, hK, hD, hSX, hc1, hc2, hd1, hd2⟩ := C
  dsimp only at ho
  subst ho
  exact va_gets hx hb hSX.2.2.1 hS hown (hts _ t_compact) (fun _ h => h) hd k0

theorem V_getq {X : ZX} {M : MD} {pc : Nat} {ls st : List AV} {μ : Mem} (hd : decode M.1 pc = .ok (.getstatic 1053, 3)) (ho : M.2.1 = RJ0) (kk : ∀ v, v = un ∨ v = vs 9 → V X M (pc + 3) ls (v :: st) μ) : V X M pc ls st μ := by
  obtain ⟨⟨l, dC, dI, ad, ac, sK, sV⟩, p, e, R, s, m, args, below, meth, c, A, cells, slots, Fin⟩ := X
  obtain ⟨cc, own, y, nL, ret, d⟩ := M
  intro C H locs la hP hS hl
  have k1 := kk un (Or.inl rfl) C H locs la hP hS hl
  have k2 := kk (vs 9) (Or.inr rfl) C H locs la hP hS hl
  obtain ⟨hx, hb, hr, hlk, hml, hown, hts, hK, hD, hSX, hc1, hc2, hd1, hd2⟩ := C
  dsimp only at ho
  subst ho
  rcases hSX.2.2.2.2.2.2 with h | h
  · exact va_gets hx hb h hS hown (hts _ t_form) (fun _ h => h) hd k1
  · exact va_gets hx hb h hS hown (hts _ t_form) (fun _ h => h) hd k2

theorem V_pop {X : ZX} {M : MD} {pc : Nat} {ls st : List AV} {μ : Mem} {x : Int} (hd : decode M.1 pc = .ok (.pop, 1)) (kk : V X M (pc + 1) ls st μ) : V X M pc ls (vi x :: st) μ := by
  obtain ⟨⟨l, dC, dI, ad, ac, sK, sV⟩, p, e, R, s, m, args, below, meth, c, A, cells, slots, Fin⟩ := X
  obtain ⟨cc, own, y, nL, ret, d⟩ := M
  intro C H locs la hP hS hl
  have k0 := kk C H locs la hP hS hl
  obtain ⟨hx, hb, hr, hlk, hml, hown, hts, hK, hD, hSX, hc1, hc2, hd1, hd2⟩ := C
  exact lv_pop (va := .int (Int32.ofInt x)) hx hb hd rfl k0

theorem V_i2c {X : ZX} {M : MD} {pc : Nat} {ls st : List AV} {μ : Mem} {x : Int} (hd : decode M.1 pc = .ok (.i2c, 1)) (hx0 : ((Int32.ofInt x).toUInt32 % 65536).toInt32 = Int32.ofInt x) (kk : V X M (pc + 1) ls (vi x :: st) μ) : V X M pc ls (vi x :: st) μ := by
  obtain ⟨⟨l, dC, dI, ad, ac, sK, sV⟩, p, e, R, s, m, args, below, meth, c, A, cells, slots, Fin⟩ := X
  obtain ⟨cc, own, y, nL, ret, d⟩ := M
  intro C H locs la hP hS hl
  have k0 := kk C H locs la hP hS hl
  obtain ⟨hx, hb, hr, hlk, hml, hown, hts, hK, hD, hSX, hc1, hc2, hd1, hd2⟩ := C
  exact lv_i2c hx hb hd hx0 k0

theorem V_nret {X : ZX} {M : MD} {pc : Nat} {ls : List AV} {μ : Mem} {Q : AV → Mem → Prop} {x : Int} {ty : FieldType} (hX : isM X Q) (hd : decode M.1 pc = .ok (.ireturn, 1)) (hrt : M.2.2.2.2.1 = some ty) (hn : narrow ty (.int (Int32.ofInt x)) = .int (Int32.ofInt x)) (hq : Q (vi x) μ) : V X M pc ls [vi x] μ := by
  obtain ⟨⟨l, dC, dI, ad, ac, sK, sV⟩, p, e, R, s, m, args, below, meth, c, A, cells, slots, Fin⟩ := X
  obtain ⟨cc, own, y, nL, ret, d⟩ := M
  intro C H locs la hP hS hl
  obtain ⟨hx, hb, hr, hlk, hml, hown, hts, hK, hD, hSX, hc1, hc2, hd1, hd2⟩ := C
  obtain ⟨rfl, rfl, rfl, rfl⟩ := hX
  exact W.zret (v := Int32.ofInt x) hx hb (hr.trans hrt) hn (fun t ht hW => ⟨⟨vi x, μ, rfl, hq, by rw [ht]; exact hP⟩, hS.F ht⟩) hS.2.2 hd (hlocks := hlk)

def CVS (own : String) (idx : Nat) (Y : MD) (n : Nat) : Prop := (Cond.methodLink own idx Y.2.2.1 ∈ TB ∧ Cond.instanceMethod Y.2.2.1 ∈ TB ∧ Cond.selects Y.2.2.1.cls Y.2.2.1 Y.2.2.1 ∈ TB ∧ Cond.initialized Y.2.2.1.cls ∈ TB ∧ Cond.code Y.2.2.1 Y.1 Y.2.2.2.1 Y.2.2.2.2.1 ∈ TB) ∧ Y.2.2.1.cls = "java/lang/String" ∧
  (Y.2.2.1.cls ≠ "java/lang/invoke/MethodHandle" ∧ Y.2.2.1.cls ≠ "java/lang/invoke/VarHandle" ∧ (parseMethodDescriptor Y.2.2.1.desc).map (fun d => d.parameters.length) = some n) ∧ Y.2.2.2.1 ≤ 45

theorem V_callVs {X : ZX} {M : MD} {pc : Nat} {ls st : List AV} {μ : Mem} {j idx : Nat} {As : List AV} {Y : MD} {Qc : AV → Mem → Prop} (hd : decode M.1 pc = .ok (.invokevirtual idx, 3)) (hc : CVS M.2.1 idx Y As.length) (hj : j < 3) (hdd : Y.2.2.2.2.2 < M.2.2.2.2.2) (hst : (st.map (fun v => if isL v then 2 else 1)).sum ≤ 8) (sp : SP Y (vs j :: As) μ Qc) (kk : ∀ v μ', Qc v μ' → V X M (pc + 3) ls (pv v st) μ') : V X M pc ls (As.reverse ++ vs j :: st) μ := by
  obtain ⟨⟨l, dC, dI, ad, ac, sK, sV⟩, p, e, R, s, m, args, below, meth, c, A, cells, slots, Fin⟩ := X
  obtain ⟨cc, own, y, nL, ret, d⟩ := M
  intro C H locs la hP hS hl
  refine V_behind (stA := As.reverse ++ vs j :: st) kk C H locs la ((vs j :: As).map (cv ad sK)).toArray hS hl ?_
  obtain ⟨hx, hb, hr, hlk, hml, hown, hts, hK, hD, hSX, hc1, hc2, hd1, hd2⟩ := C
  obtain ⟨ccY, ownY, yY, nLY, retY, dY⟩ := Y
  obtain ⟨⟨c1, c2, c3, c4, c5⟩, c6, c7, c8⟩ := hc
  dsimp only at hdd c8 c6
  refine va_runV (As := As.map (cv ad sK)) (rest := st.map (cv ad sK)) (b := sK j) (C := yY.cls) (n := As.length) (ws := Cond.code yY ccY nLY retY :: TB) (rm := zrm dY) (bytes := ccY) (maxL := nLY) (ret := retY) (Ts := TB) (own := own) ⟨hx, hb, hml, hown, hts⟩ (sp l dC dI ad ac sK sV)
    (cwV As.length hts (fun w hw => ?_) rfl rfl rfl ⟨rfl, c7⟩ ⟨?_, ?_⟩) ⟨Wd.blind, (by rw [c6]; exact vk_recv hSX.1 hj hS), fun U hU hW => ⟨rfl, ?_, va_K.moved hW.alike hK, ⟨hD.1, fun k hk => ⟨k, hk, rfl⟩⟩, hSX.to hS hU hW (wA_sub hD)⟩⟩ rfl (by simp) hl.1 (by simp; rfl) (lv_room (by rw [map_cat]; exact hst)) hd ⟨hc1, hc2⟩
  · rcases List.mem_append.mp hw with h | h
    · have : w ∈ TB := by
        rcases List.mem_cons.mp h with rfl | h
        · exact c1
        rcases List.mem_cons.mp h with rfl | h
        · exact c2
        rcases List.mem_cons.mp h with rfl | h
        · exact c3
        rcases List.mem_cons.mp h with rfl | h
        · exact c4
        · cases h
      exact ⟨this, tb_good w this⟩
    · exact tb_in (Y := ⟨ccY, ownY, yY, nLY, retY, dY⟩) c5 w h
  · show dY + 1 ≤ R.frames
    omega
  · show 8 + (nLY + 11) + 64 * dY ≤ R.locals
    omega
  · rw [hU]; exact hP

theorem V_cS0 {X : ZX} {M : MD} {pc : Nat} {ls st : List AV} {μ : Mem} {j idx : Nat}  {Y : MD} {v : AV} {μ2 : Mem} (hd : decode M.1 pc = .ok (.invokevirtual idx, 3)) (hc : CVS M.2.1 idx Y 0) (hj : j < 3) (hdd : Y.2.2.2.2.2 < M.2.2.2.2.2) (hst : (st.map (fun v => if isL v then 2 else 1)).sum ≤ 8) (sp : SP Y (vs j :: []) μ (fun w m => w = v ∧ m = μ2)) (hv : isU v = false) (kk : V X M (pc + 3) ls (v :: st) μ2) : V X M pc ls (vs j :: st) μ :=
  V_callVs (As := []) hd hc hj hdd hst sp (fun w m h => by obtain ⟨rfl, rfl⟩ := h; rw [pv_v hv]; exact kk)

theorem V_cS1 {X : ZX} {M : MD} {pc : Nat} {ls st : List AV} {μ : Mem} {j idx : Nat} {a0 : AV} {Y : MD} {v : AV} {μ2 : Mem} (hd : decode M.1 pc = .ok (.invokevirtual idx, 3)) (hc : CVS M.2.1 idx Y 1) (hj : j < 3) (hdd : Y.2.2.2.2.2 < M.2.2.2.2.2) (hst : (st.map (fun v => if isL v then 2 else 1)).sum ≤ 8) (sp : SP Y (vs j :: [a0]) μ (fun w m => w = v ∧ m = μ2)) (hv : isU v = false) (kk : V X M (pc + 3) ls (v :: st) μ2) : V X M pc ls (a0 :: vs j :: st) μ :=
  V_callVs (As := [a0]) hd hc hj hdd hst sp (fun w m h => by obtain ⟨rfl, rfl⟩ := h; rw [pv_v hv]; exact kk)

theorem V_ct2 {X : ZX} {M : MD} {pc : Nat} {ls st : List AV} {μ : Mem} {idx : Nat} {a0 a1 : AV} {Y : MD} {μ2 : Mem} (hd : decode M.1 pc = .ok (.invokestatic idx, 3)) (hc : CS M.2.1 idx Y 2) (hdd : Y.2.2.2.2.2 < M.2.2.2.2.2) (hst : (st.map (fun v => if isL v then 2 else 1)).sum ≤ 8) (sp : SP Y [a0, a1] μ (fun w m => w = un ∧ m = μ2)) (kk : V X M (pc + 3) ls st μ2) : V X M pc ls (a1 :: a0 :: st) μ :=
  V_callS (As := [a0, a1]) hd hc hdd hst sp (fun w m h => by obtain ⟨rfl, rfl⟩ := h; exact kk)

theorem kJ0_335 : CVS RJ0 335 mJ0_coder_7d493 0 := ⟨⟨(tb_of 413 (by decide +kernel) (by decide +kernel)), qJ0_coder_7d493⟩, rfl, ⟨by decide +kernel, by decide +kernel, by decide +kernel⟩, by decide⟩

theorem kJ0_492 : CVS RJ0 492 mJ0_isLatin1_aae02 0 := ⟨⟨(tb_of 423 (by decide +kernel) (by decide +kernel)), qJ0_isLatin1_aae02⟩, rfl, ⟨by decide +kernel, by decide +kernel, by decide +kernel⟩, by decide⟩

theorem kX7_121 : CVS RX7 121 mJ0_length_8abf5 0 := ⟨⟨(tb_of 409 (by decide +kernel) (by decide +kernel)), qJ0_length_8abf5⟩, rfl, ⟨by decide +kernel, by decide +kernel, by decide +kernel⟩, by decide⟩

theorem kX7_124 : CVS RX7 124 mJ0_charAt_5068e 1 := ⟨⟨(tb_of 419 (by decide +kernel) (by decide +kernel)), qJ0_charAt_5068e⟩, rfl, ⟨by decide +kernel, by decide +kernel, by decide +kernel⟩, by decide⟩

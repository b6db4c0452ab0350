abbrev z0 : Value := .int (Int32.ofInt 0)
/-! CONSTRUCTORS: from an object of zeroes to its fields and arrays -/
theorem va_joinL {A0 : Nat → Prop} {D : va_G} {cl : List vw_C} {wr w1 : va_W} {x : Nat × va_E} {H H1 : Heap} (hP : va_P D cl (wr ++ [x]) H) (hD : va_D A0 (wr ++ [x]))
    (hk : ∀ q : Nat, q < H.size → ¬ va_A [x] H.size q → H1[q]? = H[q]?) (hF : ∀ q, va_A [x] H.size q → A0 q) (hP1 : va_P D cl w1 H1) (hD1 : va_D (va_A [x] H.size) w1) : va_P D cl (wr ++ w1) H1 ∧ va_D A0 (wr ++ w1) := by
  have up : ∀ (k : Nat) (q : Nat × va_E), wr[k]? = some q → (wr ++ [x])[k]? = some q := fun k q h => by
    rw [List.getElem?_append_left (List.getElem?_eq_some_iff.mp h).1]; exact h
  have apart : ∀ (k : Nat) (q : Nat × va_E), wr[k]? = some q → q.1 < H.size ∧ ¬ va_A [x] H.size q.1 := by
    intro k q hq
    have hl := (hP k q (up k q hq)).lt
    refine ⟨hl, fun h => ?_⟩
    rcases h with ⟨k2, e, h⟩ | h
    · have hz : k2 = 0 := by have := (List.getElem?_eq_some_iff.mp h).1; simpa using this
      subst hz
      have hx : x = (q.1, e) := by simpa using h
      have h4 : (wr ++ [x])[wr.length]? = some x := by simp
      have := hD.1 k wr.length q x (up k q hq) h4 (by rw [hx])
      have := (List.getElem?_eq_some_iff.mp hq).1
      omega
    · omega
  refine ⟨va_P.app (fun k q hq => ?_) hP1, va_D.app ⟨fun i j a b ha hb e => hD.1 i j a b (up i a ha) (up j b hb) e, fun k q hq => hD.2 k q (up k q hq)⟩ (hD1.weaken (fun k q _ h => hF q.1 h)) (fun i j a b ha hb hxy => ?_)⟩
  · obtain ⟨g1, g2⟩ := apart k q hq
    exact (hP k q (up k q hq)).kept (hk q.1 g1 g2)
  · exact (apart i a ha).2 (by rw [hxy]; exact hD1.2 j b hb)
section CTRS
variable {p : Program} {l : Launch} {e : Env} {R : Room} {s : State} {m : MethodId} {args : Array Value} {below : List Frame} {meth : Method} {c : Code} {H H0 : Heap} {locs : List Loc} {cells slots : Nat} {Q : State → Prop} {cc : ByteArray} {pc : Nat} {ls : Array Slot} {rest : List Value} {dC : Nat → ClassId} {dI : Nat → Nat → Nat} {ac : Nat → ClassId} {A : Nat → Prop} {ws : va_W}
theorem ni_arr (hexec : p.tables.exec = Jvm.exec) (hb : c.code = cc) {atype : ArrayType} (harr : (Cond.arrayClass (newarray.typeOf atype)).before args s = true) {ty : FieldType} (hty : newarray.typeOf atype = ty) (hK : va_K (dC, dI) vwCl (zT ac) s) (hP : va_P (dC, dI) vwCl ws H) (hD : va_D A ws) (hS : va_S A H0 H locs) (hA : ∀ q, H0.size ≤ q → A q)
    (t : Nat) (ht : (zT ac)[t]? = some (ac t, ty)) {nm : String} (hra : ∀ cA, va_RA s cA ty → s.vm.findClass nm = some cA) {n : Int32} {N' : Nat} {a0 : vp_A} (ha : ∀ cA : ClassId, vp_cell cA a0 = arrV cA N' (fun _ => defaultValue ty)) (hn : ¬ n < 0) (hN : n.toNatClampNeg = N') (hbytes : N' * componentBytes ty ≤ 536870912) (hcells : cells + 1 ≤ R.cells) (hslots : slots + N' ≤ R.slots) (hdg : decode cc pc = .ok (.newarray atype, 2))
    (kk : ∀ (q : Nat) (H1 : Heap), va_P (dC, dI) vwCl (ws ++ [(q, .inl (ac t, a0))]) H1 → va_D A (ws ++ [(q, .inl (ac t, a0))]) → va_S A H0 H1 locs →
      W p l e R s m args below meth c H1 locs (cells + 1) (slots + N') Q (F0 m (pc + 2) ls (.ref q :: rest))) : W p l e R s m args below meth c H locs cells slots Q (F0 m pc ls (.int n :: rest)) := by
  refine va_newa hexec hb harr hty hK hP hD hS hA ha hn hN hbytes hcells hslots hdg (fun q cA H1 hK1 hP1 hD1 hS1 => ?_)
  have e : cA = ac t := by
    have h1 := hra _ (hK1.2 3 (cA, ty) rfl).2
    have h2 := hra _ (hK.2 t _ ht).2
    exact Option.some.inj (h1.symm.trans h2)
  subst e
  exact kk q H1 hP1 hD1 hS1
theorem nj_arr (hexec : p.tables.exec = Jvm.exec) (hb : c.code = cc) {atype : ArrayType} (harr : (Cond.arrayClass (newarray.typeOf atype)).before args s = true) {ty : FieldType} (hty : newarray.typeOf atype = ty) (hK : va_K (dC, dI) vwCl (zT ac) s) {x : Nat × va_E} {tl : va_W} (hP : va_P (dC, dI) vwCl (x :: tl) H) (hD : va_D A (x :: tl)) (hS : va_S A H0 H locs) (hA : ∀ q, H0.size ≤ q → A q)
    (t : Nat) (ht : (zT ac)[t]? = some (ac t, ty)) {nm : String} (hra : ∀ cA, va_RA s cA ty → s.vm.findClass nm = some cA) {n : Int32} {N' : Nat} {a0 : vp_A} (ha : ∀ cA : ClassId, vp_cell cA a0 = arrV cA N' (fun _ => defaultValue ty)) (hn : ¬ n < 0) (hN : n.toNatClampNeg = N') (hbytes : N' * componentBytes ty ≤ 536870912) (hcells : cells + 1 ≤ R.cells) (hslots : slots + N' ≤ R.slots) (hdg : decode cc pc = .ok (.newarray atype, 2))
    (kk : ∀ (q : Nat) (H1 : Heap) (tl2 : va_W), tl2 = tl ++ [(q, .inl (ac t, a0))] → va_P (dC, dI) vwCl (x :: tl2) H1 → va_D A (x :: tl2) → va_S A H0 H1 locs →
      W p l e R s m args below meth c H1 locs (cells + 1) (slots + N') Q (F0 m (pc + 2) ls (.ref q :: rest))) : W p l e R s m args below meth c H locs cells slots Q (F0 m pc ls (.int n :: rest)) :=
  ni_arr hexec hb harr hty hK hP hD hS hA t ht hra ha hn hN hbytes hcells hslots hdg (fun q H1 h1 h2 h3 => kk q H1 _ rfl h1 h2 h3)
/-- a constructor's contract: the object alone before, the object and its parts behind -/
def CTR (l : Launch) (dC : Nat → ClassId) (dI : Nat → Nat → Nat) (ac : Nat → ClassId) (y : MethodName) (cc : ByteArray) (nL fr lo mc ms : Nat) (av : List Value) (x : Nat × va_E) (N : State → Prop) (W2 : List Nat → va_W) : Prop :=
  ∀ sz : Nat, Met l y (Cond.code y cc nL none :: TB) { frames := fr, cells := mc, slots := ms, locals := lo } (va_Pc av (fun U => U.heap.size = sz ∧ va_P (dC, dI) vwCl [x] U.heap ∧ va_K (dC, dI) vwCl (zT ac) U ∧ va_D (fun _ => True) [x] ∧ N U)) (va_Qv (fun _ : List Nat => True) (fun u t => va_P (dC, dI) vwCl (W2 u) t.heap ∧ va_D (va_A [x] sz) (W2 u)) (va_A [x] sz)) mc ms (va_A [x] sz)
theorem ci_pre {av : List Value} {x : Nat × va_E} {wr : va_W} {N : State → Prop} (hP : va_P (dC, dI) vwCl (wr ++ [x]) H) (hK : va_K (dC, dI) vwCl (zT ac) s) (hN : ∀ U : State, s.WarmedH U.vm → N U) (hB : ∀ U g mk a, N U → N (U.calling g mk a)) :
    PreS s H (va_Pc av (fun U => U.heap.size = H.size ∧ va_P (dC, dI) vwCl [x] U.heap ∧ va_K (dC, dI) vwCl (zT ac) U ∧ va_D (fun _ => True) [x] ∧ N U)) av := by
  refine ⟨fun a U g mk q => by obtain ⟨q0, q1, qP, qK, qD, qN⟩ := q; exact ⟨q0, q1, qP, va_K.moved (u := U) (U := U.calling g mk a) (Vm.Alike.refl U.vm) qK, qD, hB U g mk a qN⟩, fun U hU hW => ⟨rfl, by rw [hU], ?_, va_K.moved hW.alike hK, ?_, hN U hW⟩⟩
  · rw [hU]
    intro k q hk
    refine hP (wr.length + k) q ?_
    rw [List.getElem?_append_right (by omega)]
    rw [show wr.length + k - wr.length = k by omega]; exact hk
  · refine ⟨fun i j a b ha hb _ => ?_, fun _ _ _ => trivial⟩
    have := (List.getElem?_eq_some_iff.mp ha).1
    have := (List.getElem?_eq_some_iff.mp hb).1
    simp at *; omega
theorem ci_go {x : Nat × va_E} {wr : va_W} {W2 : List Nat → va_W} {mc ms : Nat} {st0 : List Value} {a : Array Value} (hr : va_Run p l e R s m args below meth c H locs cells slots mc ms (F0 m pc ls st0) rest (va_Qv (fun _ : List Nat => True) (fun u t => va_P (dC, dI) vwCl (W2 u) t.heap ∧ va_D (va_A [x] H.size) (W2 u)) (va_A [x] H.size) a) (va_A [x] H.size))
    (hP : va_P (dC, dI) vwCl (wr ++ [x]) H) (hD : va_D A (wr ++ [x])) (hS : va_S A H0 H locs) (hA : ∀ q, H0.size ≤ q → A q)
    (kk : ∀ (u : List Nat) (H1 : Heap) (locs1 : List Loc), va_P (dC, dI) vwCl (wr ++ W2 u) H1 → va_D A (wr ++ W2 u) → va_S A H0 H1 locs1 → W p l e R s m args below meth c H1 locs1 (cells + mc) (slots + ms) Q (F0 m (pc + 3) ls rest)) : W p l e R s m args below meth c H locs cells slots Q (F0 m pc ls st0) := by
  have hF := va_free (wc := [x]) hD hS hA [wr.length] (by simp)
  refine va_callv hr hS (fun q _ h => hF q h) hF (fun u t H1 locs ht hvm _ hB hz1 hk1 hS1 => ?_)
  obtain ⟨hP1, hD1⟩ := hB
  rw [ht] at hP1
  obtain ⟨hP2, hD2⟩ := va_joinL hP hD hk1 hF hP1 hD1
  exact kk u H1 locs hP2 hD2 hS1
/-- an array is made and put into its final field -/
theorem fa_step (hexec : p.tables.exec = Jvm.exec) (hb : c.code = cc) (hts : ∀ w ∈ TB, w.before args s = true) {ci N : Nat} {C : String} {T : u_T} {ty0 : Nat → FieldType} (hck : CK ci C T N ty0) (hown : s.vm.findClass C = some m.cls) (hin : meth.name = "<init>") (hK : va_K (dC, dI) vwCl (zT ac) s) (hA : ∀ q, H0.size ≤ q → A q)
    {h0 : Nat} {fs : List Value} {tl : va_W} (hfl : fs.length = N) (hP : va_P (dC, dI) vwCl ((h0, .inr (ci, fs)) :: tl) H) (hD : va_D A ((h0, .inr (ci, fs)) :: tl)) (hS : va_S A H0 H locs)
    {atype : ArrayType} (harr : Cond.arrayClass (newarray.typeOf atype) ∈ TB) {ty : FieldType} (hty : newarray.typeOf atype = ty) (t : Nat) (ht : (zT ac)[t]? = some (ac t, ty)) {nm : String} (hra : ∀ cA, va_RA s cA ty → s.vm.findClass nm = some cA) {n : Int32} {N' : Nat} {a0 : vp_A} (ha : ∀ cA : ClassId, vp_cell cA a0 = arrV cA N' (fun _ => defaultValue ty)) (hn : ¬ n < 0) (hN : n.toNatClampNeg = N') (hbytes : N' * componentBytes ty ≤ 536870912) (hcells : cells + 1 ≤ R.cells) (hslots : slots + N' ≤ R.slots)
    (j : Nat) {index : Nat} (hj : j < N) (hlink : Cond.fieldLink C index (T j).1 (T j).2.1 (T j).2.2.1 ∈ TB) (hfin : (T j).2.2.2 = true) (hdecl : (T j).1 = C) (hd : parseFieldDescriptor (T j).2.2.1 = some (.array ty))
    (d2 : decode cc pc = .ok (.newarray atype, 2)) (d3 : decode cc (pc + 2) = .ok (.putfield index, 3))
    (kk : ∀ (q : Nat) (H1 : Heap) (locs1 : List Loc) (fs2 : List Value) (tl2 : va_W), fs2 = fs.set j (.ref q) → tl2 = tl ++ [(q, .inl (ac t, a0))] → fs2.length = N → va_P (dC, dI) vwCl ((h0, .inr (ci, fs2)) :: tl2) H1 → va_D A ((h0, .inr (ci, fs2)) :: tl2) → va_S A H0 H1 locs1 →
      W p l e R s m args below meth c H1 locs1 (cells + 1) (slots + N') Q (F0 m (pc + 2 + 3) ls rest)) : W p l e R s m args below meth c H locs cells slots Q (F0 m pc ls (.int n :: .ref h0 :: rest)) := by
  refine nj_arr hexec hb (hts _ harr) hty hK hP hD hS hA t ht hra ha hn hN hbytes hcells hslots d2 (fun q H1 tl2 etl hP hD hS => ?_)
  exact va_putF (D := (dC, dI)) (v := .ref q) (ty := .array ty) hexec hb hts hck.2.1 ty0 hck.2.2.1 hck.2.2.2.1 hown hK hP hD hS 0 rfl hck.1 j hj (hts _ hlink) (fun _ h9 => h9) hfin hin hdecl hd rfl rfl (by rw [hfl]; exact hj) d3 (fun H2 locs2 hP hD hS => kk q H2 locs2 _ tl2 rfl etl (by rw [List.length_set]; exact hfl) hP hD hS)
/-- an int is put into a field -/
theorem fi_step (hexec : p.tables.exec = Jvm.exec) (hb : c.code = cc) (hts : ∀ w ∈ TB, w.before args s = true) {ci N : Nat} {C : String} {T : u_T} {ty0 : Nat → FieldType} (hck : CK ci C T N ty0) (hown : s.vm.findClass C = some m.cls) (hK : va_K (dC, dI) vwCl (zT ac) s)
    {h0 : Nat} {fs : List Value} {tl : va_W} (hfl : fs.length = N) (hP : va_P (dC, dI) vwCl ((h0, .inr (ci, fs)) :: tl) H) (hD : va_D A ((h0, .inr (ci, fs)) :: tl)) (hS : va_S A H0 H locs) {n : Int32}
    (j : Nat) {index : Nat} (hj : j < N) (hlink : Cond.fieldLink C index (T j).1 (T j).2.1 (T j).2.2.1 ∈ TB) (hfin : (T j).2.2.2 = false) (hd : parseFieldDescriptor (T j).2.2.1 = some .int)
    (d3 : decode cc pc = .ok (.putfield index, 3))
    (kk : ∀ (H1 : Heap) (locs1 : List Loc) (fs2 : List Value), fs2 = fs.set j (.int n) → fs2.length = N → va_P (dC, dI) vwCl ((h0, .inr (ci, fs2)) :: tl) H1 → va_D A ((h0, .inr (ci, fs2)) :: tl) → va_S A H0 H1 locs1 →
      W p l e R s m args below meth c H1 locs1 cells slots Q (F0 m (pc + 3) ls rest)) : W p l e R s m args below meth c H locs cells slots Q (F0 m pc ls (.int n :: .ref h0 :: rest)) :=
  va_put (D := (dC, dI)) (v := .int n) (ty := .int) hexec hb hts hck.2.1 ty0 hck.2.2.1 hck.2.2.2.1 hown hK hP hD hS 0 rfl hck.1 j hj (hts _ hlink) (fun _ h9 => h9) hfin hd rfl rfl (by rw [hfl]; exact hj) d3 (fun H2 locs2 hP hD hS => kk H2 locs2 _ rfl (by rw [List.length_set]; exact hfl) hP hD hS)
end CTRS
abbrev nx_9 : Cond := .methodLinkNest RX11 9 yX10_init RX11
abbrev nx_18 : Cond := .methodLinkNest RX11 18 yX4_init RX11
abbrev nx_78 : Cond := .methodLinkNest RX11 78 yX0_init RX11
abbrev nx_85 : Cond := .methodLinkNest RX11 85 yX2_init RX11
abbrev wX0 (ac : Nat → ClassId) (h0 : Nat) (u : List Nat) : va_W := (h0, .inr (0, [.ref (u.getD 0 0), .ref (u.getD 1 0), .ref (u.getD 2 0), .ref (u.getD 3 0), z0])) :: [((u.getD 0 0), .inl (ac 0, 20, .inl fun _ => Int32.ofInt 0)), ((u.getD 1 0), .inl (ac 0, 20, .inl fun _ => Int32.ofInt 0)), ((u.getD 2 0), .inl (ac 0, 20, .inl fun _ => Int32.ofInt 0)), ((u.getD 3 0), .inl (ac 0, 20, .inl fun _ => Int32.ofInt 0))]
set_option maxHeartbeats 4000000 in
set_option maxRecDepth 100000 in
theorem ci_0 (l : Launch) (dC : Nat → ClassId) (dI : Nat → Nat → Nat) (ac : Nat → ClassId) (h0 : Nat) : CTR l dC dI ac yX0_init cX0_init 1 1 12 4 80 [.ref h0] (h0, .inr (0, [.null, .null, .null, .null, z0])) (fun _ => True) (wX0 ac h0) := by
  intro sz
  refine Met.ofW (cc := cX0_init) (maxL := 1) (ret := none) (by decide +kernel) rfl ?_
  intro p e s m args below meth c s₁ B hml hv
  obtain ⟨rfl, hsz, hP, hK, hD0, hN⟩ := hv
  have hx := B.exec
  have hb := B.bytes
  have hr := B.returns
  have hts0 := atoms_spec (ws := Cond.code yX0_init cX0_init 1 none :: TB) B.pre
  have hts : ∀ w ∈ TB, w.before _ s = true := fun w hw => hts0 w (List.mem_cons_of_mem _ hw)
  have hown : s.vm.findClass RX0 = some m.cls := findClass_of_methodNamed B.named
  have hin : meth.name = "<init>" := (name_of_methodNamed B.named B.method).1
  subst hsz
  have hD := hD0.self (sz := s.heap.size)
  generalize hAe : va_A [(h0, .inr (0, [.null, .null, .null, .null, z0]))] s.heap.size = A at hD ⊢
  have hA : ∀ q : Nat, s.heap.size ≤ q → A q := fun q h => by rw [← hAe]; exact Or.inr h
  have hS : va_S A s.heap s.heap [] := va_S.rf
  have hP : va_P (dC, dI) vwCl ((h0, .inr (0, [.null, .null, .null, .null, z0])) :: []) s.heap := hP
  have hl := lv_entry ([.ref h0]) (n := 1) (Nat.le_of_ble_eq_true rfl)
  rw [lg_entry_eq]
  generalize (lg_sl ([.ref h0]) ++ List.replicate (1 - (lg_sl ([.ref h0])).length) Slot.unset).toArray = ls at hl ⊢
  have hl : lv_has ls 1 [(0, .ref h0)] := hl
  refine lv_aload_n hx hb dX0_init_0 rfl (lv_at hl 0 rfl) ?_
  refine W.objInit hx hb hown (hts _ (tb_of 269 (by decide +kernel) (by decide +kernel))) (hts _ (tb_of 79 (by decide +kernel) (by decide +kernel))) (hts _ (tb_of 80 (by decide +kernel) (by decide +kernel))) rfl (by rw [hml]; exact hl.1) rfl dX0_init_1 (Nat.le_of_ble_eq_true rfl) (Nat.le_of_ble_eq_true rfl) ?_
  refine W.eq (g2 := F0 m 4 ls []) rfl ?_
  refine lv_aload_n hx hb dX0_init_4 rfl (lv_at hl 0 rfl) ?_
  refine lv_bipush (v := Int32.ofInt (20)) hx hb dX0_init_5 (by decide) ?_
  refine nj_arr (ty := .int) (N' := 20) (a0 := (20, .inl fun _ => Int32.ofInt 0)) hx hb (hts _ (tb_of 94 (by decide +kernel) (by decide +kernel))) rfl hK hP hD hS hA 0 rfl (fun _ h => h) (fun _ => rfl) (by decide) (by decide) (by decide) (by decide) (by decide) dX0_init_7 (fun q7 H t7 et7 hP hD hS => ?_)
  refine W.widen (k := 1) (n := 20) (by decide) (by decide) ?_
  refine va_putF (D := (dC, dI)) (v := .ref q7) (ty := .array .int) (C := RX0) (T := TX0) hx hb hts ck_0.2.1 tyX0 tyX0_ok nmX0 hown hK hP hD hS 0 rfl rfl 0 (by decide) (hts _ (tb_of 270 (by decide +kernel) (by decide +kernel))) (fun _ h9 => h9) (by decide +kernel) hin (by decide +kernel) (by decide +kernel) rfl rfl (Nat.le_of_ble_eq_true rfl) dX0_init_9 (fun H locs hP hD hS => ?_)
  have hP : va_P (dC, dI) vwCl ((h0, .inr (0, [.ref q7, .null, .null, .null, z0])) :: t7 : va_W) H := hP
  have hD : va_D A ((h0, .inr (0, [.ref q7, .null, .null, .null, z0])) :: t7 : va_W) := hD
  refine lv_aload_n hx hb dX0_init_12 rfl (lv_at hl 0 rfl) ?_
  refine lv_bipush (v := Int32.ofInt (20)) hx hb dX0_init_13 (by decide) ?_
  refine nj_arr (ty := .int) (N' := 20) (a0 := (20, .inl fun _ => Int32.ofInt 0)) hx hb (hts _ (tb_of 94 (by decide +kernel) (by decide +kernel))) rfl hK hP hD hS hA 0 rfl (fun _ h => h) (fun _ => rfl) (by decide) (by decide) (by decide) (by decide) (by decide) dX0_init_15 (fun q15 H t15 et15 hP hD hS => ?_)
  refine W.widen (k := 2) (n := 40) (by decide) (by decide) ?_
  refine va_putF (D := (dC, dI)) (v := .ref q15) (ty := .array .int) (C := RX0) (T := TX0) hx hb hts ck_0.2.1 tyX0 tyX0_ok nmX0 hown hK hP hD hS 0 rfl rfl 1 (by decide) (hts _ (tb_of 271 (by decide +kernel) (by decide +kernel))) (fun _ h9 => h9) (by decide +kernel) hin (by decide +kernel) (by decide +kernel) rfl rfl (Nat.le_of_ble_eq_true rfl) dX0_init_17 (fun H locs hP hD hS => ?_)
  have hP : va_P (dC, dI) vwCl ((h0, .inr (0, [.ref q7, .ref q15, .null, .null, z0])) :: t15 : va_W) H := hP
  have hD : va_D A ((h0, .inr (0, [.ref q7, .ref q15, .null, .null, z0])) :: t15 : va_W) := hD
  refine lv_aload_n hx hb dX0_init_20 rfl (lv_at hl 0 rfl) ?_
  refine lv_bipush (v := Int32.ofInt (20)) hx hb dX0_init_21 (by decide) ?_
  refine nj_arr (ty := .int) (N' := 20) (a0 := (20, .inl fun _ => Int32.ofInt 0)) hx hb (hts _ (tb_of 94 (by decide +kernel) (by decide +kernel))) rfl hK hP hD hS hA 0 rfl (fun _ h => h) (fun _ => rfl) (by decide) (by decide) (by decide) (by decide) (by decide) dX0_init_23 (fun q23 H t23 et23 hP hD hS => ?_)
  refine W.widen (k := 3) (n := 60) (by decide) (by decide) ?_
  refine va_putF (D := (dC, dI)) (v := .ref q23) (ty := .array .int) (C := RX0) (T := TX0) hx hb hts ck_0.2.1 tyX0 tyX0_ok nmX0 hown hK hP hD hS 0 rfl rfl 2 (by decide) (hts _ (tb_of 272 (by decide +kernel) (by decide +kernel))) (fun _ h9 => h9) (by decide +kernel) hin (by decide +kernel) (by decide +kernel) rfl rfl (Nat.le_of_ble_eq_true rfl) dX0_init_25 (fun H locs hP hD hS => ?_)
  have hP : va_P (dC, dI) vwCl ((h0, .inr (0, [.ref q7, .ref q15, .ref q23, .null, z0])) :: t23 : va_W) H := hP
  have hD : va_D A ((h0, .inr (0, [.ref q7, .ref q15, .ref q23, .null, z0])) :: t23 : va_W) := hD
  refine lv_aload_n hx hb dX0_init_28 rfl (lv_at hl 0 rfl) ?_
  refine lv_bipush (v := Int32.ofInt (20)) hx hb dX0_init_29 (by decide) ?_
  refine nj_arr (ty := .int) (N' := 20) (a0 := (20, .inl fun _ => Int32.ofInt 0)) hx hb (hts _ (tb_of 94 (by decide +kernel) (by decide +kernel))) rfl hK hP hD hS hA 0 rfl (fun _ h => h) (fun _ => rfl) (by decide) (by decide) (by decide) (by decide) (by decide) dX0_init_31 (fun q31 H t31 et31 hP hD hS => ?_)
  refine W.widen (k := 4) (n := 80) (by decide) (by decide) ?_
  refine va_putF (D := (dC, dI)) (v := .ref q31) (ty := .array .int) (C := RX0) (T := TX0) hx hb hts ck_0.2.1 tyX0 tyX0_ok nmX0 hown hK hP hD hS 0 rfl rfl 3 (by decide) (hts _ (tb_of 273 (by decide +kernel) (by decide +kernel))) (fun _ h9 => h9) (by decide +kernel) hin (by decide +kernel) (by decide +kernel) rfl rfl (Nat.le_of_ble_eq_true rfl) dX0_init_33 (fun H locs hP hD hS => ?_)
  have hP : va_P (dC, dI) vwCl ((h0, .inr (0, [.ref q7, .ref q15, .ref q23, .ref q31, z0])) :: t31 : va_W) H := hP
  have hD : va_D A ((h0, .inr (0, [.ref q7, .ref q15, .ref q23, .ref q31, z0])) :: t31 : va_W) := hD
  subst et31
  subst et23
  subst et15
  subst et7
  exact W.vret hx hb hr (fun t ht hW => ⟨⟨[q7, q15, q23, q31], rfl, trivial, by rw [ht]; exact hP, hD⟩, hS.F ht⟩) hS.2.2 dX0_init_36
abbrev wX1 (ac : Nat → ClassId) (h0 v1 v2 : Nat) (u : List Nat) : va_W := (h0, .inr (1, [.ref v1, .ref v2, .ref (u.getD 0 0)])) :: [((u.getD 0 0), .inl (ac 0, 9, .inl fun _ => Int32.ofInt 0))]
set_option maxHeartbeats 4000000 in
set_option maxRecDepth 100000 in
theorem ci_1 (l : Launch) (dC : Nat → ClassId) (dI : Nat → Nat → Nat) (ac : Nat → ClassId) (h0 v1 v2 : Nat) : CTR l dC dI ac yX1_init cX1_init 3 1 12 1 9 [.ref h0, .ref v1, .ref v2] (h0, .inr (1, [.null, .null, .null])) (fun _ => True) (wX1 ac h0 v1 v2) := by
  intro sz
  refine Met.ofW (cc := cX1_init) (maxL := 3) (ret := none) (by decide +kernel) rfl ?_
  intro p e s m args below meth c s₁ B hml hv
  obtain ⟨rfl, hsz, hP, hK, hD0, hN⟩ := hv
  have hx := B.exec
  have hb := B.bytes
  have hr := B.returns
  have hts0 := atoms_spec (ws := Cond.code yX1_init cX1_init 3 none :: TB) B.pre
  have hts : ∀ w ∈ TB, w.before _ s = true := fun w hw => hts0 w (List.mem_cons_of_mem _ hw)
  have hown : s.vm.findClass RX1 = some m.cls := findClass_of_methodNamed B.named
  have hin : meth.name = "<init>" := (name_of_methodNamed B.named B.method).1
  subst hsz
  have hD := hD0.self (sz := s.heap.size)
  generalize hAe : va_A [(h0, .inr (1, [.null, .null, .null]))] s.heap.size = A at hD ⊢
  have hA : ∀ q : Nat, s.heap.size ≤ q → A q := fun q h => by rw [← hAe]; exact Or.inr h
  have hS : va_S A s.heap s.heap [] := va_S.rf
  have hP : va_P (dC, dI) vwCl ((h0, .inr (1, [.null, .null, .null])) :: []) s.heap := hP
  have hl := lv_entry ([.ref h0, .ref v1, .ref v2]) (n := 3) (Nat.le_of_ble_eq_true rfl)
  rw [lg_entry_eq]
  generalize (lg_sl ([.ref h0, .ref v1, .ref v2]) ++ List.replicate (3 - (lg_sl ([.ref h0, .ref v1, .ref v2])).length) Slot.unset).toArray = ls at hl ⊢
  have hl : lv_has ls 3 [(0, .ref h0), (1, .ref v1), (2, .ref v2)] := hl
  refine lv_aload_n hx hb dX1_init_0 rfl (lv_at hl 0 rfl) ?_
  refine W.objInit hx hb hown (hts _ (tb_of 212 (by decide +kernel) (by decide +kernel))) (hts _ (tb_of 79 (by decide +kernel) (by decide +kernel))) (hts _ (tb_of 80 (by decide +kernel) (by decide +kernel))) rfl (by rw [hml]; exact hl.1) rfl dX1_init_1 (Nat.le_of_ble_eq_true rfl) (Nat.le_of_ble_eq_true rfl) ?_
  refine W.eq (g2 := F0 m 4 ls []) rfl ?_
  refine lv_aload_n hx hb dX1_init_4 rfl (lv_at hl 0 rfl) ?_
  refine lv_bipush (v := Int32.ofInt (9)) hx hb dX1_init_5 (by decide) ?_
  refine nj_arr (ty := .int) (N' := 9) (a0 := (9, .inl fun _ => Int32.ofInt 0)) hx hb (hts _ (tb_of 94 (by decide +kernel) (by decide +kernel))) rfl hK hP hD hS hA 0 rfl (fun _ h => h) (fun _ => rfl) (by decide) (by decide) (by decide) (by decide) (by decide) dX1_init_7 (fun q7 H t7 et7 hP hD hS => ?_)
  refine W.widen (k := 1) (n := 9) (by decide) (by decide) ?_
  refine va_putF (D := (dC, dI)) (v := .ref q7) (ty := .array .int) (C := RX1) (T := TX1) hx hb hts ck_1.2.1 tyX1 tyX1_ok nmX1 hown hK hP hD hS 0 rfl rfl 2 (by decide) (hts _ (tb_of 215 (by decide +kernel) (by decide +kernel))) (fun _ h9 => h9) (by decide +kernel) hin (by decide +kernel) (by decide +kernel) rfl rfl (Nat.le_of_ble_eq_true rfl) dX1_init_9 (fun H locs hP hD hS => ?_)
  have hP : va_P (dC, dI) vwCl ((h0, .inr (1, [.null, .null, .ref q7])) :: t7 : va_W) H := hP
  have hD : va_D A ((h0, .inr (1, [.null, .null, .ref q7])) :: t7 : va_W) := hD
  refine lv_aload_n hx hb dX1_init_12 rfl (lv_at hl 0 rfl) ?_
  refine lv_aload_n hx hb dX1_init_13 rfl (lv_at hl 1 rfl) ?_
  refine va_putF (D := (dC, dI)) (v := .ref v1) (ty := .object "TurnedPosts$Land") (C := RX1) (T := TX1) hx hb hts ck_1.2.1 tyX1 tyX1_ok nmX1 hown hK hP hD hS 0 rfl rfl 0 (by decide) (hts _ (tb_of 213 (by decide +kernel) (by decide +kernel))) (fun _ h9 => h9) (by decide +kernel) hin (by decide +kernel) (by decide +kernel) rfl rfl (Nat.le_of_ble_eq_true rfl) dX1_init_14 (fun H locs hP hD hS => ?_)
  have hP : va_P (dC, dI) vwCl ((h0, .inr (1, [.ref v1, .null, .ref q7])) :: t7 : va_W) H := hP
  have hD : va_D A ((h0, .inr (1, [.ref v1, .null, .ref q7])) :: t7 : va_W) := hD
  refine lv_aload_n hx hb dX1_init_17 rfl (lv_at hl 0 rfl) ?_
  refine lv_aload_n hx hb dX1_init_18 rfl (lv_at hl 2 rfl) ?_
  refine va_putF (D := (dC, dI)) (v := .ref v2) (ty := .object "TurnedPosts$Stranger") (C := RX1) (T := TX1) hx hb hts ck_1.2.1 tyX1 tyX1_ok nmX1 hown hK hP hD hS 0 rfl rfl 1 (by decide) (hts _ (tb_of 214 (by decide +kernel) (by decide +kernel))) (fun _ h9 => h9) (by decide +kernel) hin (by decide +kernel) (by decide +kernel) rfl rfl (Nat.le_of_ble_eq_true rfl) dX1_init_19 (fun H locs hP hD hS => ?_)
  have hP : va_P (dC, dI) vwCl ((h0, .inr (1, [.ref v1, .ref v2, .ref q7])) :: t7 : va_W) H := hP
  have hD : va_D A ((h0, .inr (1, [.ref v1, .ref v2, .ref q7])) :: t7 : va_W) := hD
  subst et7
  exact W.vret hx hb hr (fun t ht hW => ⟨⟨[q7], rfl, trivial, by rw [ht]; exact hP, hD⟩, hS.F ht⟩) hS.2.2 dX1_init_22
abbrev wX2 (ac : Nat → ClassId) (h0 : Nat) (u : List Nat) : va_W := (h0, .inr (2, [z0])) :: []
set_option maxHeartbeats 4000000 in
set_option maxRecDepth 100000 in
theorem ci_2 (l : Launch) (dC : Nat → ClassId) (dI : Nat → Nat → Nat) (ac : Nat → ClassId) (h0 : Nat) : CTR l dC dI ac yX2_init cX2_init 1 1 12 0 0 [.ref h0] (h0, .inr (2, [z0])) (fun _ => True) (wX2 ac h0) := by
  intro sz
  refine Met.ofW (cc := cX2_init) (maxL := 1) (ret := none) (by decide +kernel) rfl ?_
  intro p e s m args below meth c s₁ B hml hv
  obtain ⟨rfl, hsz, hP, hK, hD0, hN⟩ := hv
  have hx := B.exec
  have hb := B.bytes
  have hr := B.returns
  have hts0 := atoms_spec (ws := Cond.code yX2_init cX2_init 1 none :: TB) B.pre
  have hts : ∀ w ∈ TB, w.before _ s = true := fun w hw => hts0 w (List.mem_cons_of_mem _ hw)
  have hown : s.vm.findClass RX2 = some m.cls := findClass_of_methodNamed B.named
  have hin : meth.name = "<init>" := (name_of_methodNamed B.named B.method).1
  subst hsz
  have hD := hD0.self (sz := s.heap.size)
  generalize hAe : va_A [(h0, .inr (2, [z0]))] s.heap.size = A at hD ⊢
  have hA : ∀ q : Nat, s.heap.size ≤ q → A q := fun q h => by rw [← hAe]; exact Or.inr h
  have hS : va_S A s.heap s.heap [] := va_S.rf
  have hP : va_P (dC, dI) vwCl ((h0, .inr (2, [z0])) :: []) s.heap := hP
  have hl := lv_entry ([.ref h0]) (n := 1) (Nat.le_of_ble_eq_true rfl)
  rw [lg_entry_eq]
  generalize (lg_sl ([.ref h0]) ++ List.replicate (1 - (lg_sl ([.ref h0])).length) Slot.unset).toArray = ls at hl ⊢
  have hl : lv_has ls 1 [(0, .ref h0)] := hl
  refine lv_aload_n hx hb dX2_init_0 rfl (lv_at hl 0 rfl) ?_
  refine W.objInit hx hb hown (hts _ (tb_of 291 (by decide +kernel) (by decide +kernel))) (hts _ (tb_of 79 (by decide +kernel) (by decide +kernel))) (hts _ (tb_of 80 (by decide +kernel) (by decide +kernel))) rfl (by rw [hml]; exact hl.1) rfl dX2_init_1 (Nat.le_of_ble_eq_true rfl) (Nat.le_of_ble_eq_true rfl) ?_
  refine W.eq (g2 := F0 m 4 ls []) rfl ?_
  exact W.vret hx hb hr (fun t ht hW => ⟨⟨[], rfl, trivial, by rw [ht]; exact hP, hD⟩, hS.F ht⟩) hS.2.2 dX2_init_4
abbrev wX4 (ac : Nat → ClassId) (h0 : Nat) (u : List Nat) : va_W := (h0, .inr (4, [z0, z0, z0, .ref (u.getD 0 0), .ref (u.getD 1 0), .ref (u.getD 2 0), .ref (u.getD 3 0), .ref (u.getD 4 0), .ref (u.getD 5 0), .ref (u.getD 6 0), .ref (u.getD 7 0), .ref (u.getD 8 0), .ref (u.getD 9 0)])) :: [((u.getD 0 0), .inl (ac 0, 14, .inl fun _ => Int32.ofInt 0)), ((u.getD 1 0), .inl (ac 0, 14, .inl fun _ => Int32.ofInt 0)), ((u.getD 2 0), .inl (ac 0, 14, .inl fun _ => Int32.ofInt 0)), ((u.getD 3 0), .inl (ac 0, 20, .inl fun _ => Int32.ofInt 0)), ((u.getD 4 0), .inl (ac 0, 20, .inl fun _ => Int32.ofInt 0)), ((u.getD 5 0), .inl (ac 0, 20, .inl fun _ => Int32.ofInt 0)), ((u.getD 6 0), .inl (ac 0, 9, .inl fun _ => Int32.ofInt 0)), ((u.getD 7 0), .inl (ac 0, 45, .inl fun _ => Int32.ofInt 0)), ((u.getD 8 0), .inl (ac 0, 81, .inl fun _ => Int32.ofInt 0)), ((u.getD 9 0), .inl (ac 0, 81, .inl fun _ => Int32.ofInt 0))]
set_option maxHeartbeats 4000000 in
set_option maxRecDepth 100000 in
theorem ci_4 (l : Launch) (dC : Nat → ClassId) (dI : Nat → Nat → Nat) (ac : Nat → ClassId) (h0 : Nat) : CTR l dC dI ac yX4_init cX4_init 1 1 12 10 318 [.ref h0] (h0, .inr (4, [z0, z0, z0, .null, .null, .null, .null, .null, .null, .null, .null, .null, .null])) (fun _ => True) (wX4 ac h0) := by
  intro sz
  refine Met.ofW (cc := cX4_init) (maxL := 1) (ret := none) (by decide +kernel) rfl ?_
  intro p e s m args below meth c s₁ B hml hv
  obtain ⟨rfl, hsz, hP, hK, hD0, hN⟩ := hv
  have hx := B.exec
  have hb := B.bytes
  have hr := B.returns
  have hts0 := atoms_spec (ws := Cond.code yX4_init cX4_init 1 none :: TB) B.pre
  have hts : ∀ w ∈ TB, w.before _ s = true := fun w hw => hts0 w (List.mem_cons_of_mem _ hw)
  have hown : s.vm.findClass RX4 = some m.cls := findClass_of_methodNamed B.named
  have hin : meth.name = "<init>" := (name_of_methodNamed B.named B.method).1
  subst hsz
  have hD := hD0.self (sz := s.heap.size)
  generalize hAe : va_A [(h0, .inr (4, [z0, z0, z0, .null, .null, .null, .null, .null, .null, .null, .null, .null, .null]))] s.heap.size = A at hD ⊢
  have hA : ∀ q : Nat, s.heap.size ≤ q → A q := fun q h => by rw [← hAe]; exact Or.inr h
  have hS : va_S A s.heap s.heap [] := va_S.rf
  have hP : va_P (dC, dI) vwCl ((h0, .inr (4, [z0, z0, z0, .null, .null, .null, .null, .null, .null, .null, .null, .null, .null])) :: []) s.heap := hP
  have hl := lv_entry ([.ref h0]) (n := 1) (Nat.le_of_ble_eq_true rfl)
  rw [lg_entry_eq]
  generalize (lg_sl ([.ref h0]) ++ List.replicate (1 - (lg_sl ([.ref h0])).length) Slot.unset).toArray = ls at hl ⊢
  have hl : lv_has ls 1 [(0, .ref h0)] := hl
  refine lv_aload_n hx hb dX4_init_0 rfl (lv_at hl 0 rfl) ?_
  refine W.objInit hx hb hown (hts _ (tb_of 100 (by decide +kernel) (by decide +kernel))) (hts _ (tb_of 79 (by decide +kernel) (by decide +kernel))) (hts _ (tb_of 80 (by decide +kernel) (by decide +kernel))) rfl (by rw [hml]; exact hl.1) rfl dX4_init_1 (Nat.le_of_ble_eq_true rfl) (Nat.le_of_ble_eq_true rfl) ?_
  refine W.eq (g2 := F0 m 4 ls []) rfl ?_
  refine lv_aload_n hx hb dX4_init_4 rfl (lv_at hl 0 rfl) ?_
  refine lv_bipush (v := Int32.ofInt (14)) hx hb dX4_init_5 (by decide) ?_
  refine nj_arr (ty := .int) (N' := 14) (a0 := (14, .inl fun _ => Int32.ofInt 0)) hx hb (hts _ (tb_of 94 (by decide +kernel) (by decide +kernel))) rfl hK hP hD hS hA 0 rfl (fun _ h => h) (fun _ => rfl) (by decide) (by decide) (by decide) (by decide) (by decide) dX4_init_7 (fun q7 H t7 et7 hP hD hS => ?_)
  refine W.widen (k := 1) (n := 14) (by decide) (by decide) ?_
  refine va_putF (D := (dC, dI)) (v := .ref q7) (ty := .array .int) (C := RX4) (T := TX4) hx hb hts ck_4.2.1 tyX4 tyX4_ok nmX4 hown hK hP hD hS 0 rfl rfl 3 (by decide) (hts _ (tb_of 104 (by decide +kernel) (by decide +kernel))) (fun _ h9 => h9) (by decide +kernel) hin (by decide +kernel) (by decide +kernel) rfl rfl (Nat.le_of_ble_eq_true rfl) dX4_init_9 (fun H locs hP hD hS => ?_)
  have hP : va_P (dC, dI) vwCl ((h0, .inr (4, [z0, z0, z0, .ref q7, .null, .null, .null, .null, .null, .null, .null, .null, .null])) :: t7 : va_W) H := hP
  have hD : va_D A ((h0, .inr (4, [z0, z0, z0, .ref q7, .null, .null, .null, .null, .null, .null, .null, .null, .null])) :: t7 : va_W) := hD
  refine lv_aload_n hx hb dX4_init_12 rfl (lv_at hl 0 rfl) ?_
  refine lv_bipush (v := Int32.ofInt (14)) hx hb dX4_init_13 (by decide) ?_
  refine nj_arr (ty := .int) (N' := 14) (a0 := (14, .inl fun _ => Int32.ofInt 0)) hx hb (hts _ (tb_of 94 (by decide +kernel) (by decide +kernel))) rfl hK hP hD hS hA 0 rfl (fun _ h => h) (fun _ => rfl) (by decide) (by decide) (by decide) (by decide) (by decide) dX4_init_15 (fun q15 H t15 et15 hP hD hS => ?_)
  refine W.widen (k := 2) (n := 28) (by decide) (by decide) ?_
  refine va_putF (D := (dC, dI)) (v := .ref q15) (ty := .array .int) (C := RX4) (T := TX4) hx hb hts ck_4.2.1 tyX4 tyX4_ok nmX4 hown hK hP hD hS 0 rfl rfl 4 (by decide) (hts _ (tb_of 105 (by decide +kernel) (by decide +kernel))) (fun _ h9 => h9) (by decide +kernel) hin (by decide +kernel) (by decide +kernel) rfl rfl (Nat.le_of_ble_eq_true rfl) dX4_init_17 (fun H locs hP hD hS => ?_)
  have hP : va_P (dC, dI) vwCl ((h0, .inr (4, [z0, z0, z0, .ref q7, .ref q15, .null, .null, .null, .null, .null, .null, .null, .null])) :: t15 : va_W) H := hP
  have hD : va_D A ((h0, .inr (4, [z0, z0, z0, .ref q7, .ref q15, .null, .null, .null, .null, .null, .null, .null, .null])) :: t15 : va_W) := hD
  refine lv_aload_n hx hb dX4_init_20 rfl (lv_at hl 0 rfl) ?_
  refine lv_bipush (v := Int32.ofInt (14)) hx hb dX4_init_21 (by decide) ?_
  refine nj_arr (ty := .int) (N' := 14) (a0 := (14, .inl fun _ => Int32.ofInt 0)) hx hb (hts _ (tb_of 94 (by decide +kernel) (by decide +kernel))) rfl hK hP hD hS hA 0 rfl (fun _ h => h) (fun _ => rfl) (by decide) (by decide) (by decide) (by decide) (by decide) dX4_init_23 (fun q23 H t23 et23 hP hD hS => ?_)
  refine W.widen (k := 3) (n := 42) (by decide) (by decide) ?_
  refine va_putF (D := (dC, dI)) (v := .ref q23) (ty := .array .int) (C := RX4) (T := TX4) hx hb hts ck_4.2.1 tyX4 tyX4_ok nmX4 hown hK hP hD hS 0 rfl rfl 5 (by decide) (hts _ (tb_of 106 (by decide +kernel) (by decide +kernel))) (fun _ h9 => h9) (by decide +kernel) hin (by decide +kernel) (by decide +kernel) rfl rfl (Nat.le_of_ble_eq_true rfl) dX4_init_25 (fun H locs hP hD hS => ?_)
  have hP : va_P (dC, dI) vwCl ((h0, .inr (4, [z0, z0, z0, .ref q7, .ref q15, .ref q23, .null, .null, .null, .null, .null, .null, .null])) :: t23 : va_W) H := hP
  have hD : va_D A ((h0, .inr (4, [z0, z0, z0, .ref q7, .ref q15, .ref q23, .null, .null, .null, .null, .null, .null, .null])) :: t23 : va_W) := hD
  refine lv_aload_n hx hb dX4_init_28 rfl (lv_at hl 0 rfl) ?_
  refine lv_bipush (v := Int32.ofInt (20)) hx hb dX4_init_29 (by decide) ?_
  refine nj_arr (ty := .int) (N' := 20) (a0 := (20, .inl fun _ => Int32.ofInt 0)) hx hb (hts _ (tb_of 94 (by decide +kernel) (by decide +kernel))) rfl hK hP hD hS hA 0 rfl (fun _ h => h) (fun _ => rfl) (by decide) (by decide) (by decide) (by decide) (by decide) dX4_init_31 (fun q31 H t31 et31 hP hD hS => ?_)
  refine W.widen (k := 4) (n := 62) (by decide) (by decide) ?_
  refine va_putF (D := (dC, dI)) (v := .ref q31) (ty := .array .int) (C := RX4) (T := TX4) hx hb hts ck_4.2.1 tyX4 tyX4_ok nmX4 hown hK hP hD hS 0 rfl rfl 6 (by decide) (hts _ (tb_of 107 (by decide +kernel) (by decide +kernel))) (fun _ h9 => h9) (by decide +kernel) hin (by decide +kernel) (by decide +kernel) rfl rfl (Nat.le_of_ble_eq_true rfl) dX4_init_33 (fun H locs hP hD hS => ?_)
  have hP : va_P (dC, dI) vwCl ((h0, .inr (4, [z0, z0, z0, .ref q7, .ref q15, .ref q23, .ref q31, .null, .null, .null, .null, .null, .null])) :: t31 : va_W) H := hP
  have hD : va_D A ((h0, .inr (4, [z0, z0, z0, .ref q7, .ref q15, .ref q23, .ref q31, .null, .null, .null, .null, .null, .null])) :: t31 : va_W) := hD
  refine lv_aload_n hx hb dX4_init_36 rfl (lv_at hl 0 rfl) ?_
  refine lv_bipush (v := Int32.ofInt (20)) hx hb dX4_init_37 (by decide) ?_
  refine nj_arr (ty := .int) (N' := 20) (a0 := (20, .inl fun _ => Int32.ofInt 0)) hx hb (hts _ (tb_of 94 (by decide +kernel) (by decide +kernel))) rfl hK hP hD hS hA 0 rfl (fun _ h => h) (fun _ => rfl) (by decide) (by decide) (by decide) (by decide) (by decide) dX4_init_39 (fun q39 H t39 et39 hP hD hS => ?_)
  refine W.widen (k := 5) (n := 82) (by decide) (by decide) ?_
  refine va_putF (D := (dC, dI)) (v := .ref q39) (ty := .array .int) (C := RX4) (T := TX4) hx hb hts ck_4.2.1 tyX4 tyX4_ok nmX4 hown hK hP hD hS 0 rfl rfl 7 (by decide) (hts _ (tb_of 108 (by decide +kernel) (by decide +kernel))) (fun _ h9 => h9) (by decide +kernel) hin (by decide +kernel) (by decide +kernel) rfl rfl (Nat.le_of_ble_eq_true rfl) dX4_init_41 (fun H locs hP hD hS => ?_)
  have hP : va_P (dC, dI) vwCl ((h0, .inr (4, [z0, z0, z0, .ref q7, .ref q15, .ref q23, .ref q31, .ref q39, .null, .null, .null, .null, .null])) :: t39 : va_W) H := hP
  have hD : va_D A ((h0, .inr (4, [z0, z0, z0, .ref q7, .ref q15, .ref q23, .ref q31, .ref q39, .null, .null, .null, .null, .null])) :: t39 : va_W) := hD
  refine lv_aload_n hx hb dX4_init_44 rfl (lv_at hl 0 rfl) ?_
  refine lv_bipush (v := Int32.ofInt (20)) hx hb dX4_init_45 (by decide) ?_
  refine nj_arr (ty := .int) (N' := 20) (a0 := (20, .inl fun _ => Int32.ofInt 0)) hx hb (hts _ (tb_of 94 (by decide +kernel) (by decide +kernel))) rfl hK hP hD hS hA 0 rfl (fun _ h => h) (fun _ => rfl) (by decide) (by decide) (by decide) (by decide) (by decide) dX4_init_47 (fun q47 H t47 et47 hP hD hS => ?_)
  refine W.widen (k := 6) (n := 102) (by decide) (by decide) ?_
  refine va_putF (D := (dC, dI)) (v := .ref q47) (ty := .array .int) (C := RX4) (T := TX4) hx hb hts ck_4.2.1 tyX4 tyX4_ok nmX4 hown hK hP hD hS 0 rfl rfl 8 (by decide) (hts _ (tb_of 109 (by decide +kernel) (by decide +kernel))) (fun _ h9 => h9) (by decide +kernel) hin (by decide +kernel) (by decide +kernel) rfl rfl (Nat.le_of_ble_eq_true rfl) dX4_init_49 (fun H locs hP hD hS => ?_)
  have hP : va_P (dC, dI) vwCl ((h0, .inr (4, [z0, z0, z0, .ref q7, .ref q15, .ref q23, .ref q31, .ref q39, .ref q47, .null, .null, .null, .null])) :: t47 : va_W) H := hP
  have hD : va_D A ((h0, .inr (4, [z0, z0, z0, .ref q7, .ref q15, .ref q23, .ref q31, .ref q39, .ref q47, .null, .null, .null, .null])) :: t47 : va_W) := hD
  refine lv_aload_n hx hb dX4_init_52 rfl (lv_at hl 0 rfl) ?_
  refine lv_bipush (v := Int32.ofInt (9)) hx hb dX4_init_53 (by decide) ?_
  refine nj_arr (ty := .int) (N' := 9) (a0 := (9, .inl fun _ => Int32.ofInt 0)) hx hb (hts _ (tb_of 94 (by decide +kernel) (by decide +kernel))) rfl hK hP hD hS hA 0 rfl (fun _ h => h) (fun _ => rfl) (by decide) (by decide) (by decide) (by decide) (by decide) dX4_init_55 (fun q55 H t55 et55 hP hD hS => ?_)
  refine W.widen (k := 7) (n := 111) (by decide) (by decide) ?_
  refine va_putF (D := (dC, dI)) (v := .ref q55) (ty := .array .int) (C := RX4) (T := TX4) hx hb hts ck_4.2.1 tyX4 tyX4_ok nmX4 hown hK hP hD hS 0 rfl rfl 9 (by decide) (hts _ (tb_of 110 (by decide +kernel) (by decide +kernel))) (fun _ h9 => h9) (by decide +kernel) hin (by decide +kernel) (by decide +kernel) rfl rfl (Nat.le_of_ble_eq_true rfl) dX4_init_57 (fun H locs hP hD hS => ?_)
  have hP : va_P (dC, dI) vwCl ((h0, .inr (4, [z0, z0, z0, .ref q7, .ref q15, .ref q23, .ref q31, .ref q39, .ref q47, .ref q55, .null, .null, .null])) :: t55 : va_W) H := hP
  have hD : va_D A ((h0, .inr (4, [z0, z0, z0, .ref q7, .ref q15, .ref q23, .ref q31, .ref q39, .ref q47, .ref q55, .null, .null, .null])) :: t55 : va_W) := hD
  refine lv_aload_n hx hb dX4_init_60 rfl (lv_at hl 0 rfl) ?_
  refine lv_bipush (v := Int32.ofInt (45)) hx hb dX4_init_61 (by decide) ?_
  refine nj_arr (ty := .int) (N' := 45) (a0 := (45, .inl fun _ => Int32.ofInt 0)) hx hb (hts _ (tb_of 94 (by decide +kernel) (by decide +kernel))) rfl hK hP hD hS hA 0 rfl (fun _ h => h) (fun _ => rfl) (by decide) (by decide) (by decide) (by decide) (by decide) dX4_init_63 (fun q63 H t63 et63 hP hD hS => ?_)
  refine W.widen (k := 8) (n := 156) (by decide) (by decide) ?_
  refine va_putF (D := (dC, dI)) (v := .ref q63) (ty := .array .int) (C := RX4) (T := TX4) hx hb hts ck_4.2.1 tyX4 tyX4_ok nmX4 hown hK hP hD hS 0 rfl rfl 10 (by decide) (hts _ (tb_of 111 (by decide +kernel) (by decide +kernel))) (fun _ h9 => h9) (by decide +kernel) hin (by decide +kernel) (by decide +kernel) rfl rfl (Nat.le_of_ble_eq_true rfl) dX4_init_65 (fun H locs hP hD hS => ?_)
  have hP : va_P (dC, dI) vwCl ((h0, .inr (4, [z0, z0, z0, .ref q7, .ref q15, .ref q23, .ref q31, .ref q39, .ref q47, .ref q55, .ref q63, .null, .null])) :: t63 : va_W) H := hP
  have hD : va_D A ((h0, .inr (4, [z0, z0, z0, .ref q7, .ref q15, .ref q23, .ref q31, .ref q39, .ref q47, .ref q55, .ref q63, .null, .null])) :: t63 : va_W) := hD
  refine lv_aload_n hx hb dX4_init_68 rfl (lv_at hl 0 rfl) ?_
  refine lv_bipush (v := Int32.ofInt (81)) hx hb dX4_init_69 (by decide) ?_
  refine nj_arr (ty := .int) (N' := 81) (a0 := (81, .inl fun _ => Int32.ofInt 0)) hx hb (hts _ (tb_of 94 (by decide +kernel) (by decide +kernel))) rfl hK hP hD hS hA 0 rfl (fun _ h => h) (fun _ => rfl) (by decide) (by decide) (by decide) (by decide) (by decide) dX4_init_71 (fun q71 H t71 et71 hP hD hS => ?_)
  refine W.widen (k := 9) (n := 237) (by decide) (by decide) ?_
  refine va_putF (D := (dC, dI)) (v := .ref q71) (ty := .array .int) (C := RX4) (T := TX4) hx hb hts ck_4.2.1 tyX4 tyX4_ok nmX4 hown hK hP hD hS 0 rfl rfl 11 (by decide) (hts _ (tb_of 112 (by decide +kernel) (by decide +kernel))) (fun _ h9 => h9) (by decide +kernel) hin (by decide +kernel) (by decide +kernel) rfl rfl (Nat.le_of_ble_eq_true rfl) dX4_init_73 (fun H locs hP hD hS => ?_)
  have hP : va_P (dC, dI) vwCl ((h0, .inr (4, [z0, z0, z0, .ref q7, .ref q15, .ref q23, .ref q31, .ref q39, .ref q47, .ref q55, .ref q63, .ref q71, .null])) :: t71 : va_W) H := hP
  have hD : va_D A ((h0, .inr (4, [z0, z0, z0, .ref q7, .ref q15, .ref q23, .ref q31, .ref q39, .ref q47, .ref q55, .ref q63, .ref q71, .null])) :: t71 : va_W) := hD
  refine lv_aload_n hx hb dX4_init_76 rfl (lv_at hl 0 rfl) ?_
  refine lv_bipush (v := Int32.ofInt (81)) hx hb dX4_init_77 (by decide) ?_
  refine nj_arr (ty := .int) (N' := 81) (a0 := (81, .inl fun _ => Int32.ofInt 0)) hx hb (hts _ (tb_of 94 (by decide +kernel) (by decide +kernel))) rfl hK hP hD hS hA 0 rfl (fun _ h => h) (fun _ => rfl) (by decide) (by decide) (by decide) (by decide) (by decide) dX4_init_79 (fun q79 H t79 et79 hP hD hS => ?_)
  refine W.widen (k := 10) (n := 318) (by decide) (by decide) ?_
  refine va_putF (D := (dC, dI)) (v := .ref q79) (ty := .array .int) (C := RX4) (T := TX4) hx hb hts ck_4.2.1 tyX4 tyX4_ok nmX4 hown hK hP hD hS 0 rfl rfl 12 (by decide) (hts _ (tb_of 113 (by decide +kernel) (by decide +kernel))) (fun _ h9 => h9) (by decide +kernel) hin (by decide +kernel) (by decide +kernel) rfl rfl (Nat.le_of_ble_eq_true rfl) dX4_init_81 (fun H locs hP hD hS => ?_)
  have hP : va_P (dC, dI) vwCl ((h0, .inr (4, [z0, z0, z0, .ref q7, .ref q15, .ref q23, .ref q31, .ref q39, .ref q47, .ref q55, .ref q63, .ref q71, .ref q79])) :: t79 : va_W) H := hP
  have hD : va_D A ((h0, .inr (4, [z0, z0, z0, .ref q7, .ref q15, .ref q23, .ref q31, .ref q39, .ref q47, .ref q55, .ref q63, .ref q71, .ref q79])) :: t79 : va_W) := hD
  subst et79
  subst et71
  subst et63
  subst et55
  subst et47
  subst et39
  subst et31
  subst et23
  subst et15
  subst et7
  exact W.vret hx hb hr (fun t ht hW => ⟨⟨[q7, q15, q23, q31, q39, q47, q55, q63, q71, q79], rfl, trivial, by rw [ht]; exact hP, hD⟩, hS.F ht⟩) hS.2.2 dX4_init_84
abbrev wX5 (ac : Nat → ClassId) (h0 v1 v2 : Nat) (u : List Nat) : va_W := (h0, .inr (5, [.ref v1, .ref v2, z0, z0])) :: []
set_option maxHeartbeats 4000000 in
set_option maxRecDepth 100000 in
theorem ci_5 (l : Launch) (dC : Nat → ClassId) (dI : Nat → Nat → Nat) (ac : Nat → ClassId) (h0 v1 v2 : Nat) : CTR l dC dI ac yX5_init cX5_init 3 1 12 0 0 [.ref h0, .ref v1, .ref v2] (h0, .inr (5, [.null, .null, z0, z0])) (fun _ => True) (wX5 ac h0 v1 v2) := by
  intro sz
  refine Met.ofW (cc := cX5_init) (maxL := 3) (ret := none) (by decide +kernel) rfl ?_
  intro p e s m args below meth c s₁ B hml hv
  obtain ⟨rfl, hsz, hP, hK, hD0, hN⟩ := hv
  have hx := B.exec
  have hb := B.bytes
  have hr := B.returns
  have hts0 := atoms_spec (ws := Cond.code yX5_init cX5_init 3 none :: TB) B.pre
  have hts : ∀ w ∈ TB, w.before _ s = true := fun w hw => hts0 w (List.mem_cons_of_mem _ hw)
  have hown : s.vm.findClass RX5 = some m.cls := findClass_of_methodNamed B.named
  have hin : meth.name = "<init>" := (name_of_methodNamed B.named B.method).1
  subst hsz
  have hD := hD0.self (sz := s.heap.size)
  generalize hAe : va_A [(h0, .inr (5, [.null, .null, z0, z0]))] s.heap.size = A at hD ⊢
  have hA : ∀ q : Nat, s.heap.size ≤ q → A q := fun q h => by rw [← hAe]; exact Or.inr h
  have hS : va_S A s.heap s.heap [] := va_S.rf
  have hP : va_P (dC, dI) vwCl ((h0, .inr (5, [.null, .null, z0, z0])) :: []) s.heap := hP
  have hl := lv_entry ([.ref h0, .ref v1, .ref v2]) (n := 3) (Nat.le_of_ble_eq_true rfl)
  rw [lg_entry_eq]
  generalize (lg_sl ([.ref h0, .ref v1, .ref v2]) ++ List.replicate (3 - (lg_sl ([.ref h0, .ref v1, .ref v2])).length) Slot.unset).toArray = ls at hl ⊢
  have hl : lv_has ls 3 [(0, .ref h0), (1, .ref v1), (2, .ref v2)] := hl
  refine lv_aload_n hx hb dX5_init_0 rfl (lv_at hl 0 rfl) ?_
  refine W.objInit hx hb hown (hts _ (tb_of 228 (by decide +kernel) (by decide +kernel))) (hts _ (tb_of 79 (by decide +kernel) (by decide +kernel))) (hts _ (tb_of 80 (by decide +kernel) (by decide +kernel))) rfl (by rw [hml]; exact hl.1) rfl dX5_init_1 (Nat.le_of_ble_eq_true rfl) (Nat.le_of_ble_eq_true rfl) ?_
  refine W.eq (g2 := F0 m 4 ls []) rfl ?_
  refine lv_aload_n hx hb dX5_init_4 rfl (lv_at hl 0 rfl) ?_
  refine lv_aload_n hx hb dX5_init_5 rfl (lv_at hl 1 rfl) ?_
  refine va_putF (D := (dC, dI)) (v := .ref v1) (ty := .object "TurnedPosts$Land") (C := RX5) (T := TX5) hx hb hts ck_5.2.1 tyX5 tyX5_ok nmX5 hown hK hP hD hS 0 rfl rfl 0 (by decide) (hts _ (tb_of 229 (by decide +kernel) (by decide +kernel))) (fun _ h9 => h9) (by decide +kernel) hin (by decide +kernel) (by decide +kernel) rfl rfl (Nat.le_of_ble_eq_true rfl) dX5_init_6 (fun H locs hP hD hS => ?_)
  have hP : va_P (dC, dI) vwCl ((h0, .inr (5, [.ref v1, .null, z0, z0])) :: [] : va_W) H := hP
  have hD : va_D A ((h0, .inr (5, [.ref v1, .null, z0, z0])) :: [] : va_W) := hD
  refine lv_aload_n hx hb dX5_init_9 rfl (lv_at hl 0 rfl) ?_
  refine lv_aload_n hx hb dX5_init_10 rfl (lv_at hl 2 rfl) ?_
  refine va_putF (D := (dC, dI)) (v := .ref v2) (ty := .object "TurnedPosts$Posts") (C := RX5) (T := TX5) hx hb hts ck_5.2.1 tyX5 tyX5_ok nmX5 hown hK hP hD hS 0 rfl rfl 1 (by decide) (hts _ (tb_of 230 (by decide +kernel) (by decide +kernel))) (fun _ h9 => h9) (by decide +kernel) hin (by decide +kernel) (by decide +kernel) rfl rfl (Nat.le_of_ble_eq_true rfl) dX5_init_11 (fun H locs hP hD hS => ?_)
  have hP : va_P (dC, dI) vwCl ((h0, .inr (5, [.ref v1, .ref v2, z0, z0])) :: [] : va_W) H := hP
  have hD : va_D A ((h0, .inr (5, [.ref v1, .ref v2, z0, z0])) :: [] : va_W) := hD
  exact W.vret hx hb hr (fun t ht hW => ⟨⟨[], rfl, trivial, by rw [ht]; exact hP, hD⟩, hS.F ht⟩) hS.2.2 dX5_init_14
abbrev wX6 (ac : Nat → ClassId) (h0 v1 : Nat) (u : List Nat) : va_W := (h0, .inr (6, [.ref v1, .ref (u.getD 0 0), .ref (u.getD 1 0), .ref (u.getD 2 0)])) :: [((u.getD 0 0), .inl (ac 0, 9, .inl fun _ => Int32.ofInt 0)), ((u.getD 1 0), .inl (ac 0, 9, .inl fun _ => Int32.ofInt 0)), ((u.getD 2 0), .inl (ac 0, 81, .inl fun _ => Int32.ofInt 0))]
set_option maxHeartbeats 4000000 in
set_option maxRecDepth 100000 in
theorem ci_6 (l : Launch) (dC : Nat → ClassId) (dI : Nat → Nat → Nat) (ac : Nat → ClassId) (h0 v1 : Nat) : CTR l dC dI ac yX6_init cX6_init 2 1 12 3 99 [.ref h0, .ref v1] (h0, .inr (6, [.null, .null, .null, .null])) (fun _ => True) (wX6 ac h0 v1) := by
  intro sz
  refine Met.ofW (cc := cX6_init) (maxL := 2) (ret := none) (by decide +kernel) rfl ?_
  intro p e s m args below meth c s₁ B hml hv
  obtain ⟨rfl, hsz, hP, hK, hD0, hN⟩ := hv
  have hx := B.exec
  have hb := B.bytes
  have hr := B.returns
  have hts0 := atoms_spec (ws := Cond.code yX6_init cX6_init 2 none :: TB) B.pre
  have hts : ∀ w ∈ TB, w.before _ s = true := fun w hw => hts0 w (List.mem_cons_of_mem _ hw)
  have hown : s.vm.findClass RX6 = some m.cls := findClass_of_methodNamed B.named
  have hin : meth.name = "<init>" := (name_of_methodNamed B.named B.method).1
  subst hsz
  have hD := hD0.self (sz := s.heap.size)
  generalize hAe : va_A [(h0, .inr (6, [.null, .null, .null, .null]))] s.heap.size = A at hD ⊢
  have hA : ∀ q : Nat, s.heap.size ≤ q → A q := fun q h => by rw [← hAe]; exact Or.inr h
  have hS : va_S A s.heap s.heap [] := va_S.rf
  have hP : va_P (dC, dI) vwCl ((h0, .inr (6, [.null, .null, .null, .null])) :: []) s.heap := hP
  have hl := lv_entry ([.ref h0, .ref v1]) (n := 2) (Nat.le_of_ble_eq_true rfl)
  rw [lg_entry_eq]
  generalize (lg_sl ([.ref h0, .ref v1]) ++ List.replicate (2 - (lg_sl ([.ref h0, .ref v1])).length) Slot.unset).toArray = ls at hl ⊢
  have hl : lv_has ls 2 [(0, .ref h0), (1, .ref v1)] := hl
  refine lv_aload_n hx hb dX6_init_0 rfl (lv_at hl 0 rfl) ?_
  refine W.objInit hx hb hown (hts _ (tb_of 168 (by decide +kernel) (by decide +kernel))) (hts _ (tb_of 79 (by decide +kernel) (by decide +kernel))) (hts _ (tb_of 80 (by decide +kernel) (by decide +kernel))) rfl (by rw [hml]; exact hl.1) rfl dX6_init_1 (Nat.le_of_ble_eq_true rfl) (Nat.le_of_ble_eq_true rfl) ?_
  refine W.eq (g2 := F0 m 4 ls []) rfl ?_
  refine lv_aload_n hx hb dX6_init_4 rfl (lv_at hl 0 rfl) ?_
  refine lv_bipush (v := Int32.ofInt (9)) hx hb dX6_init_5 (by decide) ?_
  refine nj_arr (ty := .int) (N' := 9) (a0 := (9, .inl fun _ => Int32.ofInt 0)) hx hb (hts _ (tb_of 94 (by decide +kernel) (by decide +kernel))) rfl hK hP hD hS hA 0 rfl (fun _ h => h) (fun _ => rfl) (by decide) (by decide) (by decide) (by decide) (by decide) dX6_init_7 (fun q7 H t7 et7 hP hD hS => ?_)
  refine W.widen (k := 1) (n := 9) (by decide) (by decide) ?_
  refine va_putF (D := (dC, dI)) (v := .ref q7) (ty := .array .int) (C := RX6) (T := TX6) hx hb hts ck_6.2.1 tyX6 tyX6_ok nmX6 hown hK hP hD hS 0 rfl rfl 1 (by decide) (hts _ (tb_of 170 (by decide +kernel) (by decide +kernel))) (fun _ h9 => h9) (by decide +kernel) hin (by decide +kernel) (by decide +kernel) rfl rfl (Nat.le_of_ble_eq_true rfl) dX6_init_9 (fun H locs hP hD hS => ?_)
  have hP : va_P (dC, dI) vwCl ((h0, .inr (6, [.null, .ref q7, .null, .null])) :: t7 : va_W) H := hP
  have hD : va_D A ((h0, .inr (6, [.null, .ref q7, .null, .null])) :: t7 : va_W) := hD
  refine lv_aload_n hx hb dX6_init_12 rfl (lv_at hl 0 rfl) ?_
  refine lv_bipush (v := Int32.ofInt (9)) hx hb dX6_init_13 (by decide) ?_
  refine nj_arr (ty := .int) (N' := 9) (a0 := (9, .inl fun _ => Int32.ofInt 0)) hx hb (hts _ (tb_of 94 (by decide +kernel) (by decide +kernel))) rfl hK hP hD hS hA 0 rfl (fun _ h => h) (fun _ => rfl) (by decide) (by decide) (by decide) (by decide) (by decide) dX6_init_15 (fun q15 H t15 et15 hP hD hS => ?_)
  refine W.widen (k := 2) (n := 18) (by decide) (by decide) ?_
  refine va_putF (D := (dC, dI)) (v := .ref q15) (ty := .array .int) (C := RX6) (T := TX6) hx hb hts ck_6.2.1 tyX6 tyX6_ok nmX6 hown hK hP hD hS 0 rfl rfl 2 (by decide) (hts _ (tb_of 171 (by decide +kernel) (by decide +kernel))) (fun _ h9 => h9) (by decide +kernel) hin (by decide +kernel) (by decide +kernel) rfl rfl (Nat.le_of_ble_eq_true rfl) dX6_init_17 (fun H locs hP hD hS => ?_)
  have hP : va_P (dC, dI) vwCl ((h0, .inr (6, [.null, .ref q7, .ref q15, .null])) :: t15 : va_W) H := hP
  have hD : va_D A ((h0, .inr (6, [.null, .ref q7, .ref q15, .null])) :: t15 : va_W) := hD
  refine lv_aload_n hx hb dX6_init_20 rfl (lv_at hl 0 rfl) ?_
  refine lv_bipush (v := Int32.ofInt (81)) hx hb dX6_init_21 (by decide) ?_
  refine nj_arr (ty := .int) (N' := 81) (a0 := (81, .inl fun _ => Int32.ofInt 0)) hx hb (hts _ (tb_of 94 (by decide +kernel) (by decide +kernel))) rfl hK hP hD hS hA 0 rfl (fun _ h => h) (fun _ => rfl) (by decide) (by decide) (by decide) (by decide) (by decide) dX6_init_23 (fun q23 H t23 et23 hP hD hS => ?_)
  refine W.widen (k := 3) (n := 99) (by decide) (by decide) ?_
  refine va_putF (D := (dC, dI)) (v := .ref q23) (ty := .array .int) (C := RX6) (T := TX6) hx hb hts ck_6.2.1 tyX6 tyX6_ok nmX6 hown hK hP hD hS 0 rfl rfl 3 (by decide) (hts _ (tb_of 172 (by decide +kernel) (by decide +kernel))) (fun _ h9 => h9) (by decide +kernel) hin (by decide +kernel) (by decide +kernel) rfl rfl (Nat.le_of_ble_eq_true rfl) dX6_init_25 (fun H locs hP hD hS => ?_)
  have hP : va_P (dC, dI) vwCl ((h0, .inr (6, [.null, .ref q7, .ref q15, .ref q23])) :: t23 : va_W) H := hP
  have hD : va_D A ((h0, .inr (6, [.null, .ref q7, .ref q15, .ref q23])) :: t23 : va_W) := hD
  refine lv_aload_n hx hb dX6_init_28 rfl (lv_at hl 0 rfl) ?_
  refine lv_aload_n hx hb dX6_init_29 rfl (lv_at hl 1 rfl) ?_
  refine va_putF (D := (dC, dI)) (v := .ref v1) (ty := .object "TurnedPosts$Land") (C := RX6) (T := TX6) hx hb hts ck_6.2.1 tyX6 tyX6_ok nmX6 hown hK hP hD hS 0 rfl rfl 0 (by decide) (hts _ (tb_of 169 (by decide +kernel) (by decide +kernel))) (fun _ h9 => h9) (by decide +kernel) hin (by decide +kernel) (by decide +kernel) rfl rfl (Nat.le_of_ble_eq_true rfl) dX6_init_30 (fun H locs hP hD hS => ?_)
  have hP : va_P (dC, dI) vwCl ((h0, .inr (6, [.ref v1, .ref q7, .ref q15, .ref q23])) :: t23 : va_W) H := hP
  have hD : va_D A ((h0, .inr (6, [.ref v1, .ref q7, .ref q15, .ref q23])) :: t23 : va_W) := hD
  subst et23
  subst et15
  subst et7
  exact W.vret hx hb hr (fun t ht hW => ⟨⟨[q7, q15, q23], rfl, trivial, by rw [ht]; exact hP, hD⟩, hS.F ht⟩) hS.2.2 dX6_init_33
abbrev wX3 (ac : Nat → ClassId) (h0 v1 : Nat) (u : List Nat) : va_W := (h0, .inr (3, [.ref (u.getD 0 0), z0, z0])) :: ([] ++ wX6 ac (u.getD 0 0) v1 [u.getD 1 0, u.getD 2 0, u.getD 3 0])
set_option maxHeartbeats 4000000 in
set_option maxRecDepth 100000 in
theorem ci_3 (l : Launch) (dC : Nat → ClassId) (dI : Nat → Nat → Nat) (ac : Nat → ClassId) (h0 v1 : Nat) : CTR l dC dI ac yX3_init cX3_init 2 2 40 4 103 [.ref h0, .ref v1] (h0, .inr (3, [.null, z0, z0])) (fun _ => True) (wX3 ac h0 v1) := by
  intro sz
  refine Met.ofW (cc := cX3_init) (maxL := 2) (ret := none) (by decide +kernel) rfl ?_
  intro p e s m args below meth c s₁ B hml hv
  obtain ⟨rfl, hsz, hP, hK, hD0, hN⟩ := hv
  have hx := B.exec
  have hb := B.bytes
  have hr := B.returns
  have hts0 := atoms_spec (ws := Cond.code yX3_init cX3_init 2 none :: TB) B.pre
  have hts : ∀ w ∈ TB, w.before _ s = true := fun w hw => hts0 w (List.mem_cons_of_mem _ hw)
  have hown : s.vm.findClass RX3 = some m.cls := findClass_of_methodNamed B.named
  have hin : meth.name = "<init>" := (name_of_methodNamed B.named B.method).1
  subst hsz
  have hD := hD0.self (sz := s.heap.size)
  generalize hAe : va_A [(h0, .inr (3, [.null, z0, z0]))] s.heap.size = A at hD ⊢
  have hA : ∀ q : Nat, s.heap.size ≤ q → A q := fun q h => by rw [← hAe]; exact Or.inr h
  have hS : va_S A s.heap s.heap [] := va_S.rf
  have hP : va_P (dC, dI) vwCl ((h0, .inr (3, [.null, z0, z0])) :: []) s.heap := hP
  have hl := lv_entry ([.ref h0, .ref v1]) (n := 2) (Nat.le_of_ble_eq_true rfl)
  rw [lg_entry_eq]
  generalize (lg_sl ([.ref h0, .ref v1]) ++ List.replicate (2 - (lg_sl ([.ref h0, .ref v1])).length) Slot.unset).toArray = ls at hl ⊢
  have hl : lv_has ls 2 [(0, .ref h0), (1, .ref v1)] := hl
  refine lv_aload_n hx hb dX3_init_0 rfl (lv_at hl 0 rfl) ?_
  refine W.objInit hx hb hown (hts _ (tb_of 301 (by decide +kernel) (by decide +kernel))) (hts _ (tb_of 79 (by decide +kernel) (by decide +kernel))) (hts _ (tb_of 80 (by decide +kernel) (by decide +kernel))) rfl (by rw [hml]; exact hl.1) rfl dX3_init_1 (Nat.le_of_ble_eq_true rfl) (Nat.le_of_ble_eq_true rfl) ?_
  refine W.eq (g2 := F0 m 4 ls []) rfl ?_
  refine lv_aload_n hx hb dX3_init_4 rfl (lv_at hl 0 rfl) ?_
  refine va_new (ci := 6) (fs := [.null, .null, .null, .null]) (C := RX6) (T := TX6) (N := 4) hx hb hts ck_6.2.1 tyX6 tyX6_ok hown (hts _ (tb_of 302 (by decide +kernel) (by decide +kernel))) (hts _ (tb_of 164 (by decide +kernel) (by decide +kernel))) (hts _ (tb_of 57 (by decide +kernel) (by decide +kernel))) hK hP hD hS hA rfl (by decide +kernel) (by decide) (by decide) dX3_init_5 (fun q5 H hP hD hS => ?_)
  refine W.widen (k := 1) (n := 4) (by decide) (by decide) ?_
  refine lv_dup hx hb dX3_init_8 rfl ?_
  refine lv_aload_n hx hb dX3_init_9 rfl (lv_at hl 1 rfl) ?_
  refine ci_go (wr := ((h0, .inr (3, [.null, z0, z0])) :: [] : va_W)) (W2 := wX6 ac q5 v1) (va_runI (As := [.ref v1]) (rest := [.ref q5, .ref h0]) ⟨hx, hb, hml, hown, hts⟩ (ci_6 l dC dI ac q5 v1 H.size) (cwI 1 hts (tb_in (Y := (cX6_init, RX6, yX6_init, 2, none, 0)) (tb_of 167 (by decide +kernel) (by decide +kernel))) rfl rfl rfl (hts _ (tb_of 57 (by decide +kernel) (by decide +kernel))) (hts _ (tb_of 303 (by decide +kernel) (by decide +kernel))) (hts _ (tb_of 166 (by decide +kernel) (by decide +kernel))) rfl (by decide +kernel) ⟨by decide, by decide⟩) (ci_pre (wr := ((h0, .inr (3, [.null, z0, z0])) :: [] : va_W)) hP hK (fun _ _ => trivial) (fun _ _ _ _ _ => trivial)) rfl rfl hl.1 rfl (lv_room (Nat.le_of_ble_eq_true rfl)) dX3_init_10 ⟨by decide, by decide⟩) hP hD hS hA (fun u10 H locs hP hD hS => ?_)
  have hP : va_P (dC, dI) vwCl ((h0, .inr (3, [.null, z0, z0])) :: ([] ++ wX6 ac q5 v1 u10) : va_W) H := hP
  have hD : va_D A ((h0, .inr (3, [.null, z0, z0])) :: ([] ++ wX6 ac q5 v1 u10) : va_W) := hD
  refine W.widen (k := 4) (n := 103) (by decide) (by decide) ?_
  refine va_putF (D := (dC, dI)) (v := .ref q5) (ty := .object "TurnedPosts$Posts") (C := RX3) (T := TX3) hx hb hts ck_3.2.1 tyX3 tyX3_ok nmX3 hown hK hP hD hS 0 rfl rfl 0 (by decide) (hts _ (tb_of 304 (by decide +kernel) (by decide +kernel))) (fun _ h9 => h9) (by decide +kernel) hin (by decide +kernel) (by decide +kernel) rfl rfl (Nat.le_of_ble_eq_true rfl) dX3_init_13 (fun H locs hP hD hS => ?_)
  have hP : va_P (dC, dI) vwCl ((h0, .inr (3, [.ref q5, z0, z0])) :: ([] ++ wX6 ac q5 v1 u10) : va_W) H := hP
  have hD : va_D A ((h0, .inr (3, [.ref q5, z0, z0])) :: ([] ++ wX6 ac q5 v1 u10) : va_W) := hD
  exact W.vret hx hb hr (fun t ht hW => ⟨⟨[q5, u10.getD 0 0, u10.getD 1 0, u10.getD 2 0], rfl, trivial, by rw [ht]; exact hP, hD⟩, hS.F ht⟩) hS.2.2 dX3_init_16
abbrev wX7 (ac : Nat → ClassId) (h0 v1 v2 : Nat) (u : List Nat) : va_W := (h0, .inr (7, [.ref v1, .ref v2, z0, z0, .int (Int32.ofInt (-1))])) :: []
set_option maxHeartbeats 4000000 in
set_option maxRecDepth 100000 in
theorem ci_7 (l : Launch) (dC : Nat → ClassId) (dI : Nat → Nat → Nat) (ac : Nat → ClassId) (h0 v1 v2 : Nat) : CTR l dC dI ac yX7_init cX7_init 3 1 12 0 0 [.ref h0, .ref v1, .ref v2] (h0, .inr (7, [.null, .null, z0, z0, z0])) (fun _ => True) (wX7 ac h0 v1 v2) := by
  intro sz
  refine Met.ofW (cc := cX7_init) (maxL := 3) (ret := none) (by decide +kernel) rfl ?_
  intro p e s m args below meth c s₁ B hml hv
  obtain ⟨rfl, hsz, hP, hK, hD0, hN⟩ := hv
  have hx := B.exec
  have hb := B.bytes
  have hr := B.returns
  have hts0 := atoms_spec (ws := Cond.code yX7_init cX7_init 3 none :: TB) B.pre
  have hts : ∀ w ∈ TB, w.before _ s = true := fun w hw => hts0 w (List.mem_cons_of_mem _ hw)
  have hown : s.vm.findClass RX7 = some m.cls := findClass_of_methodNamed B.named
  have hin : meth.name = "<init>" := (name_of_methodNamed B.named B.method).1
  subst hsz
  have hD := hD0.self (sz := s.heap.size)
  generalize hAe : va_A [(h0, .inr (7, [.null, .null, z0, z0, z0]))] s.heap.size = A at hD ⊢
  have hA : ∀ q : Nat, s.heap.size ≤ q → A q := fun q h => by rw [← hAe]; exact Or.inr h
  have hS : va_S A s.heap s.heap [] := va_S.rf
  have hP : va_P (dC, dI) vwCl ((h0, .inr (7, [.null, .null, z0, z0, z0])) :: []) s.heap := hP
  have hl := lv_entry ([.ref h0, .ref v1, .ref v2]) (n := 3) (Nat.le_of_ble_eq_true rfl)
  rw [lg_entry_eq]
  generalize (lg_sl ([.ref h0, .ref v1, .ref v2]) ++ List.replicate (3 - (lg_sl ([.ref h0, .ref v1, .ref v2])).length) Slot.unset).toArray = ls at hl ⊢
  have hl : lv_has ls 3 [(0, .ref h0), (1, .ref v1), (2, .ref v2)] := hl
  refine lv_aload_n hx hb dX7_init_0 rfl (lv_at hl 0 rfl) ?_
  refine W.objInit hx hb hown (hts _ (tb_of 146 (by decide +kernel) (by decide +kernel))) (hts _ (tb_of 79 (by decide +kernel) (by decide +kernel))) (hts _ (tb_of 80 (by decide +kernel) (by decide +kernel))) rfl (by rw [hml]; exact hl.1) rfl dX7_init_1 (Nat.le_of_ble_eq_true rfl) (Nat.le_of_ble_eq_true rfl) ?_
  refine W.eq (g2 := F0 m 4 ls []) rfl ?_
  refine lv_aload_n hx hb dX7_init_4 rfl (lv_at hl 0 rfl) ?_
  refine lv_iconst (v := Int32.ofInt (-1)) hx hb dX7_init_5 (by decide) ?_
  refine va_put (D := (dC, dI)) (v := .int (Int32.ofInt (-1))) (ty := .int) (C := RX7) (T := TX7) hx hb hts ck_7.2.1 tyX7 tyX7_ok nmX7 hown hK hP hD hS 0 rfl rfl 4 (by decide) (hts _ (tb_of 151 (by decide +kernel) (by decide +kernel))) (fun _ h9 => h9) (by decide +kernel) (by decide +kernel) rfl rfl (Nat.le_of_ble_eq_true rfl) dX7_init_6 (fun H locs hP hD hS => ?_)
  have hP : va_P (dC, dI) vwCl ((h0, .inr (7, [.null, .null, z0, z0, .int (Int32.ofInt (-1))])) :: [] : va_W) H := hP
  have hD : va_D A ((h0, .inr (7, [.null, .null, z0, z0, .int (Int32.ofInt (-1))])) :: [] : va_W) := hD
  refine lv_aload_n hx hb dX7_init_9 rfl (lv_at hl 0 rfl) ?_
  refine lv_aload_n hx hb dX7_init_10 rfl (lv_at hl 1 rfl) ?_
  refine va_putF (D := (dC, dI)) (v := .ref v1) (ty := .object "TurnedPosts$Text") (C := RX7) (T := TX7) hx hb hts ck_7.2.1 tyX7 tyX7_ok nmX7 hown hK hP hD hS 0 rfl rfl 0 (by decide) (hts _ (tb_of 147 (by decide +kernel) (by decide +kernel))) (fun _ h9 => h9) (by decide +kernel) hin (by decide +kernel) (by decide +kernel) rfl rfl (Nat.le_of_ble_eq_true rfl) dX7_init_11 (fun H locs hP hD hS => ?_)
  have hP : va_P (dC, dI) vwCl ((h0, .inr (7, [.ref v1, .null, z0, z0, .int (Int32.ofInt (-1))])) :: [] : va_W) H := hP
  have hD : va_D A ((h0, .inr (7, [.ref v1, .null, z0, z0, .int (Int32.ofInt (-1))])) :: [] : va_W) := hD
  refine lv_aload_n hx hb dX7_init_14 rfl (lv_at hl 0 rfl) ?_
  refine lv_aload_n hx hb dX7_init_15 rfl (lv_at hl 2 rfl) ?_
  refine va_putF (D := (dC, dI)) (v := .ref v2) (ty := .object "TurnedPosts$Land") (C := RX7) (T := TX7) hx hb hts ck_7.2.1 tyX7 tyX7_ok nmX7 hown hK hP hD hS 0 rfl rfl 1 (by decide) (hts _ (tb_of 148 (by decide +kernel) (by decide +kernel))) (fun _ h9 => h9) (by decide +kernel) hin (by decide +kernel) (by decide +kernel) rfl rfl (Nat.le_of_ble_eq_true rfl) dX7_init_16 (fun H locs hP hD hS => ?_)
  have hP : va_P (dC, dI) vwCl ((h0, .inr (7, [.ref v1, .ref v2, z0, z0, .int (Int32.ofInt (-1))])) :: [] : va_W) H := hP
  have hD : va_D A ((h0, .inr (7, [.ref v1, .ref v2, z0, z0, .int (Int32.ofInt (-1))])) :: [] : va_W) := hD
  exact W.vret hx hb hr (fun t ht hW => ⟨⟨[], rfl, trivial, by rw [ht]; exact hP, hD⟩, hS.F ht⟩) hS.2.2 dX7_init_19
abbrev wX8 (ac : Nat → ClassId) (h0 v1 : Nat) (u : List Nat) : va_W := (h0, .inr (8, [.ref v1, .ref (u.getD 0 0), .ref (u.getD 1 0), .ref (u.getD 2 0), z0])) :: [((u.getD 0 0), .inl (ac 0, 40, .inl fun _ => Int32.ofInt 0)), ((u.getD 1 0), .inl (ac 0, 40, .inl fun _ => Int32.ofInt 0)), ((u.getD 2 0), .inl (ac 0, 40, .inl fun _ => Int32.ofInt 0))]
set_option maxHeartbeats 4000000 in
set_option maxRecDepth 100000 in
theorem ci_8 (l : Launch) (dC : Nat → ClassId) (dI : Nat → Nat → Nat) (ac : Nat → ClassId) (h0 v1 : Nat) : CTR l dC dI ac yX8_init cX8_init 2 1 12 3 120 [.ref h0, .ref v1] (h0, .inr (8, [.null, .null, .null, .null, z0])) (fun _ => True) (wX8 ac h0 v1) := by
  intro sz
  refine Met.ofW (cc := cX8_init) (maxL := 2) (ret := none) (by decide +kernel) rfl ?_
  intro p e s m args below meth c s₁ B hml hv
  obtain ⟨rfl, hsz, hP, hK, hD0, hN⟩ := hv
  have hx := B.exec
  have hb := B.bytes
  have hr := B.returns
  have hts0 := atoms_spec (ws := Cond.code yX8_init cX8_init 2 none :: TB) B.pre
  have hts : ∀ w ∈ TB, w.before _ s = true := fun w hw => hts0 w (List.mem_cons_of_mem _ hw)
  have hown : s.vm.findClass RX8 = some m.cls := findClass_of_methodNamed B.named
  have hin : meth.name = "<init>" := (name_of_methodNamed B.named B.method).1
  subst hsz
  have hD := hD0.self (sz := s.heap.size)
  generalize hAe : va_A [(h0, .inr (8, [.null, .null, .null, .null, z0]))] s.heap.size = A at hD ⊢
  have hA : ∀ q : Nat, s.heap.size ≤ q → A q := fun q h => by rw [← hAe]; exact Or.inr h
  have hS : va_S A s.heap s.heap [] := va_S.rf
  have hP : va_P (dC, dI) vwCl ((h0, .inr (8, [.null, .null, .null, .null, z0])) :: []) s.heap := hP
  have hl := lv_entry ([.ref h0, .ref v1]) (n := 2) (Nat.le_of_ble_eq_true rfl)
  rw [lg_entry_eq]
  generalize (lg_sl ([.ref h0, .ref v1]) ++ List.replicate (2 - (lg_sl ([.ref h0, .ref v1])).length) Slot.unset).toArray = ls at hl ⊢
  have hl : lv_has ls 2 [(0, .ref h0), (1, .ref v1)] := hl
  refine lv_aload_n hx hb dX8_init_0 rfl (lv_at hl 0 rfl) ?_
  refine W.objInit hx hb hown (hts _ (tb_of 247 (by decide +kernel) (by decide +kernel))) (hts _ (tb_of 79 (by decide +kernel) (by decide +kernel))) (hts _ (tb_of 80 (by decide +kernel) (by decide +kernel))) rfl (by rw [hml]; exact hl.1) rfl dX8_init_1 (Nat.le_of_ble_eq_true rfl) (Nat.le_of_ble_eq_true rfl) ?_
  refine W.eq (g2 := F0 m 4 ls []) rfl ?_
  refine lv_aload_n hx hb dX8_init_4 rfl (lv_at hl 0 rfl) ?_
  refine lv_bipush (v := Int32.ofInt (40)) hx hb dX8_init_5 (by decide) ?_
  refine nj_arr (ty := .int) (N' := 40) (a0 := (40, .inl fun _ => Int32.ofInt 0)) hx hb (hts _ (tb_of 94 (by decide +kernel) (by decide +kernel))) rfl hK hP hD hS hA 0 rfl (fun _ h => h) (fun _ => rfl) (by decide) (by decide) (by decide) (by decide) (by decide) dX8_init_7 (fun q7 H t7 et7 hP hD hS => ?_)
  refine W.widen (k := 1) (n := 40) (by decide) (by decide) ?_
  refine va_putF (D := (dC, dI)) (v := .ref q7) (ty := .array .int) (C := RX8) (T := TX8) hx hb hts ck_8.2.1 tyX8 tyX8_ok nmX8 hown hK hP hD hS 0 rfl rfl 1 (by decide) (hts _ (tb_of 249 (by decide +kernel) (by decide +kernel))) (fun _ h9 => h9) (by decide +kernel) hin (by decide +kernel) (by decide +kernel) rfl rfl (Nat.le_of_ble_eq_true rfl) dX8_init_9 (fun H locs hP hD hS => ?_)
  have hP : va_P (dC, dI) vwCl ((h0, .inr (8, [.null, .ref q7, .null, .null, z0])) :: t7 : va_W) H := hP
  have hD : va_D A ((h0, .inr (8, [.null, .ref q7, .null, .null, z0])) :: t7 : va_W) := hD
  refine lv_aload_n hx hb dX8_init_12 rfl (lv_at hl 0 rfl) ?_
  refine lv_bipush (v := Int32.ofInt (40)) hx hb dX8_init_13 (by decide) ?_
  refine nj_arr (ty := .int) (N' := 40) (a0 := (40, .inl fun _ => Int32.ofInt 0)) hx hb (hts _ (tb_of 94 (by decide +kernel) (by decide +kernel))) rfl hK hP hD hS hA 0 rfl (fun _ h => h) (fun _ => rfl) (by decide) (by decide) (by decide) (by decide) (by decide) dX8_init_15 (fun q15 H t15 et15 hP hD hS => ?_)
  refine W.widen (k := 2) (n := 80) (by decide) (by decide) ?_
  refine va_putF (D := (dC, dI)) (v := .ref q15) (ty := .array .int) (C := RX8) (T := TX8) hx hb hts ck_8.2.1 tyX8 tyX8_ok nmX8 hown hK hP hD hS 0 rfl rfl 2 (by decide) (hts _ (tb_of 250 (by decide +kernel) (by decide +kernel))) (fun _ h9 => h9) (by decide +kernel) hin (by decide +kernel) (by decide +kernel) rfl rfl (Nat.le_of_ble_eq_true rfl) dX8_init_17 (fun H locs hP hD hS => ?_)
  have hP : va_P (dC, dI) vwCl ((h0, .inr (8, [.null, .ref q7, .ref q15, .null, z0])) :: t15 : va_W) H := hP
  have hD : va_D A ((h0, .inr (8, [.null, .ref q7, .ref q15, .null, z0])) :: t15 : va_W) := hD
  refine lv_aload_n hx hb dX8_init_20 rfl (lv_at hl 0 rfl) ?_
  refine lv_bipush (v := Int32.ofInt (40)) hx hb dX8_init_21 (by decide) ?_
  refine nj_arr (ty := .int) (N' := 40) (a0 := (40, .inl fun _ => Int32.ofInt 0)) hx hb (hts _ (tb_of 94 (by decide +kernel) (by decide +kernel))) rfl hK hP hD hS hA 0 rfl (fun _ h => h) (fun _ => rfl) (by decide) (by decide) (by decide) (by decide) (by decide) dX8_init_23 (fun q23 H t23 et23 hP hD hS => ?_)
  refine W.widen (k := 3) (n := 120) (by decide) (by decide) ?_
  refine va_putF (D := (dC, dI)) (v := .ref q23) (ty := .array .int) (C := RX8) (T := TX8) hx hb hts ck_8.2.1 tyX8 tyX8_ok nmX8 hown hK hP hD hS 0 rfl rfl 3 (by decide) (hts _ (tb_of 251 (by decide +kernel) (by decide +kernel))) (fun _ h9 => h9) (by decide +kernel) hin (by decide +kernel) (by decide +kernel) rfl rfl (Nat.le_of_ble_eq_true rfl) dX8_init_25 (fun H locs hP hD hS => ?_)
  have hP : va_P (dC, dI) vwCl ((h0, .inr (8, [.null, .ref q7, .ref q15, .ref q23, z0])) :: t23 : va_W) H := hP
  have hD : va_D A ((h0, .inr (8, [.null, .ref q7, .ref q15, .ref q23, z0])) :: t23 : va_W) := hD
  refine lv_aload_n hx hb dX8_init_28 rfl (lv_at hl 0 rfl) ?_
  refine lv_aload_n hx hb dX8_init_29 rfl (lv_at hl 1 rfl) ?_
  refine va_putF (D := (dC, dI)) (v := .ref v1) (ty := .object "TurnedPosts$Land") (C := RX8) (T := TX8) hx hb hts ck_8.2.1 tyX8 tyX8_ok nmX8 hown hK hP hD hS 0 rfl rfl 0 (by decide) (hts _ (tb_of 248 (by decide +kernel) (by decide +kernel))) (fun _ h9 => h9) (by decide +kernel) hin (by decide +kernel) (by decide +kernel) rfl rfl (Nat.le_of_ble_eq_true rfl) dX8_init_30 (fun H locs hP hD hS => ?_)
  have hP : va_P (dC, dI) vwCl ((h0, .inr (8, [.ref v1, .ref q7, .ref q15, .ref q23, z0])) :: t23 : va_W) H := hP
  have hD : va_D A ((h0, .inr (8, [.ref v1, .ref q7, .ref q15, .ref q23, z0])) :: t23 : va_W) := hD
  subst et23
  subst et15
  subst et7
  exact W.vret hx hb hr (fun t ht hW => ⟨⟨[q7, q15, q23], rfl, trivial, by rw [ht]; exact hP, hD⟩, hS.F ht⟩) hS.2.2 dX8_init_33
abbrev wX9 (ac : Nat → ClassId) (h0 v1 v2 : Nat) (u : List Nat) : va_W := (h0, .inr (9, [.ref v1, .ref v2, .ref (u.getD 0 0), z0, z0, z0])) :: [((u.getD 0 0), .inl (ac 0, 10, .inl fun _ => Int32.ofInt 0))]
set_option maxHeartbeats 4000000 in
set_option maxRecDepth 100000 in
theorem ci_9 (l : Launch) (dC : Nat → ClassId) (dI : Nat → Nat → Nat) (ac : Nat → ClassId) (h0 v1 v2 : Nat) : CTR l dC dI ac yX9_init cX9_init 3 1 12 1 10 [.ref h0, .ref v1, .ref v2] (h0, .inr (9, [.null, .null, .null, z0, z0, z0])) (fun _ => True) (wX9 ac h0 v1 v2) := by
  intro sz
  refine Met.ofW (cc := cX9_init) (maxL := 3) (ret := none) (by decide +kernel) rfl ?_
  intro p e s m args below meth c s₁ B hml hv
  obtain ⟨rfl, hsz, hP, hK, hD0, hN⟩ := hv
  have hx := B.exec
  have hb := B.bytes
  have hr := B.returns
  have hts0 := atoms_spec (ws := Cond.code yX9_init cX9_init 3 none :: TB) B.pre
  have hts : ∀ w ∈ TB, w.before _ s = true := fun w hw => hts0 w (List.mem_cons_of_mem _ hw)
  have hown : s.vm.findClass RX9 = some m.cls := findClass_of_methodNamed B.named
  have hin : meth.name = "<init>" := (name_of_methodNamed B.named B.method).1
  subst hsz
  have hD := hD0.self (sz := s.heap.size)
  generalize hAe : va_A [(h0, .inr (9, [.null, .null, .null, z0, z0, z0]))] s.heap.size = A at hD ⊢
  have hA : ∀ q : Nat, s.heap.size ≤ q → A q := fun q h => by rw [← hAe]; exact Or.inr h
  have hS : va_S A s.heap s.heap [] := va_S.rf
  have hP : va_P (dC, dI) vwCl ((h0, .inr (9, [.null, .null, .null, z0, z0, z0])) :: []) s.heap := hP
  have hl := lv_entry ([.ref h0, .ref v1, .ref v2]) (n := 3) (Nat.le_of_ble_eq_true rfl)
  rw [lg_entry_eq]
  generalize (lg_sl ([.ref h0, .ref v1, .ref v2]) ++ List.replicate (3 - (lg_sl ([.ref h0, .ref v1, .ref v2])).length) Slot.unset).toArray = ls at hl ⊢
  have hl : lv_has ls 3 [(0, .ref h0), (1, .ref v1), (2, .ref v2)] := hl
  refine lv_aload_n hx hb dX9_init_0 rfl (lv_at hl 0 rfl) ?_
  refine W.objInit hx hb hown (hts _ (tb_of 187 (by decide +kernel) (by decide +kernel))) (hts _ (tb_of 79 (by decide +kernel) (by decide +kernel))) (hts _ (tb_of 80 (by decide +kernel) (by decide +kernel))) rfl (by rw [hml]; exact hl.1) rfl dX9_init_1 (Nat.le_of_ble_eq_true rfl) (Nat.le_of_ble_eq_true rfl) ?_
  refine W.eq (g2 := F0 m 4 ls []) rfl ?_
  refine lv_aload_n hx hb dX9_init_4 rfl (lv_at hl 0 rfl) ?_
  refine lv_bipush (v := Int32.ofInt (10)) hx hb dX9_init_5 (by decide) ?_
  refine nj_arr (ty := .int) (N' := 10) (a0 := (10, .inl fun _ => Int32.ofInt 0)) hx hb (hts _ (tb_of 94 (by decide +kernel) (by decide +kernel))) rfl hK hP hD hS hA 0 rfl (fun _ h => h) (fun _ => rfl) (by decide) (by decide) (by decide) (by decide) (by decide) dX9_init_7 (fun q7 H t7 et7 hP hD hS => ?_)
  refine W.widen (k := 1) (n := 10) (by decide) (by decide) ?_
  refine va_putF (D := (dC, dI)) (v := .ref q7) (ty := .array .int) (C := RX9) (T := TX9) hx hb hts ck_9.2.1 tyX9 tyX9_ok nmX9 hown hK hP hD hS 0 rfl rfl 2 (by decide) (hts _ (tb_of 190 (by decide +kernel) (by decide +kernel))) (fun _ h9 => h9) (by decide +kernel) hin (by decide +kernel) (by decide +kernel) rfl rfl (Nat.le_of_ble_eq_true rfl) dX9_init_9 (fun H locs hP hD hS => ?_)
  have hP : va_P (dC, dI) vwCl ((h0, .inr (9, [.null, .null, .ref q7, z0, z0, z0])) :: t7 : va_W) H := hP
  have hD : va_D A ((h0, .inr (9, [.null, .null, .ref q7, z0, z0, z0])) :: t7 : va_W) := hD
  refine lv_aload_n hx hb dX9_init_12 rfl (lv_at hl 0 rfl) ?_
  refine lv_aload_n hx hb dX9_init_13 rfl (lv_at hl 1 rfl) ?_
  refine va_putF (D := (dC, dI)) (v := .ref v1) (ty := .object "TurnedPosts$Land") (C := RX9) (T := TX9) hx hb hts ck_9.2.1 tyX9 tyX9_ok nmX9 hown hK hP hD hS 0 rfl rfl 0 (by decide) (hts _ (tb_of 188 (by decide +kernel) (by decide +kernel))) (fun _ h9 => h9) (by decide +kernel) hin (by decide +kernel) (by decide +kernel) rfl rfl (Nat.le_of_ble_eq_true rfl) dX9_init_14 (fun H locs hP hD hS => ?_)
  have hP : va_P (dC, dI) vwCl ((h0, .inr (9, [.ref v1, .null, .ref q7, z0, z0, z0])) :: t7 : va_W) H := hP
  have hD : va_D A ((h0, .inr (9, [.ref v1, .null, .ref q7, z0, z0, z0])) :: t7 : va_W) := hD
  refine lv_aload_n hx hb dX9_init_17 rfl (lv_at hl 0 rfl) ?_
  refine lv_aload_n hx hb dX9_init_18 rfl (lv_at hl 2 rfl) ?_
  refine va_putF (D := (dC, dI)) (v := .ref v2) (ty := .object "TurnedPosts$Posts") (C := RX9) (T := TX9) hx hb hts ck_9.2.1 tyX9 tyX9_ok nmX9 hown hK hP hD hS 0 rfl rfl 1 (by decide) (hts _ (tb_of 189 (by decide +kernel) (by decide +kernel))) (fun _ h9 => h9) (by decide +kernel) hin (by decide +kernel) (by decide +kernel) rfl rfl (Nat.le_of_ble_eq_true rfl) dX9_init_19 (fun H locs hP hD hS => ?_)
  have hP : va_P (dC, dI) vwCl ((h0, .inr (9, [.ref v1, .ref v2, .ref q7, z0, z0, z0])) :: t7 : va_W) H := hP
  have hD : va_D A ((h0, .inr (9, [.ref v1, .ref v2, .ref q7, z0, z0, z0])) :: t7 : va_W) := hD
  subst et7
  exact W.vret hx hb hr (fun t ht hW => ⟨⟨[q7], rfl, trivial, by rw [ht]; exact hP, hD⟩, hS.F ht⟩) hS.2.2 dX9_init_22
abbrev wX10 (ac : Nat → ClassId) (h0 : Nat) (u : List Nat) : va_W := (h0, .inr (10, [.ref (u.getD 0 0), z0])) :: [((u.getD 0 0), .inl (ac 0, 400, .inl fun _ => Int32.ofInt 0))]
set_option maxHeartbeats 4000000 in
set_option maxRecDepth 100000 in
theorem ci_10 (l : Launch) (dC : Nat → ClassId) (dI : Nat → Nat → Nat) (ac : Nat → ClassId) (h0 : Nat) : CTR l dC dI ac yX10_init cX10_init 1 1 12 1 400 [.ref h0] (h0, .inr (10, [.null, z0])) (fun _ => True) (wX10 ac h0) := by
  intro sz
  refine Met.ofW (cc := cX10_init) (maxL := 1) (ret := none) (by decide +kernel) rfl ?_
  intro p e s m args below meth c s₁ B hml hv
  obtain ⟨rfl, hsz, hP, hK, hD0, hN⟩ := hv
  have hx := B.exec
  have hb := B.bytes
  have hr := B.returns
  have hts0 := atoms_spec (ws := Cond.code yX10_init cX10_init 1 none :: TB) B.pre
  have hts : ∀ w ∈ TB, w.before _ s = true := fun w hw => hts0 w (List.mem_cons_of_mem _ hw)
  have hown : s.vm.findClass RX10 = some m.cls := findClass_of_methodNamed B.named
  have hin : meth.name = "<init>" := (name_of_methodNamed B.named B.method).1
  subst hsz
  have hD := hD0.self (sz := s.heap.size)
  generalize hAe : va_A [(h0, .inr (10, [.null, z0]))] s.heap.size = A at hD ⊢
  have hA : ∀ q : Nat, s.heap.size ≤ q → A q := fun q h => by rw [← hAe]; exact Or.inr h
  have hS : va_S A s.heap s.heap [] := va_S.rf
  have hP : va_P (dC, dI) vwCl ((h0, .inr (10, [.null, z0])) :: []) s.heap := hP
  have hl := lv_entry ([.ref h0]) (n := 1) (Nat.le_of_ble_eq_true rfl)
  rw [lg_entry_eq]
  generalize (lg_sl ([.ref h0]) ++ List.replicate (1 - (lg_sl ([.ref h0])).length) Slot.unset).toArray = ls at hl ⊢
  have hl : lv_has ls 1 [(0, .ref h0)] := hl
  refine lv_aload_n hx hb dX10_init_0 rfl (lv_at hl 0 rfl) ?_
  refine W.objInit hx hb hown (hts _ (tb_of 86 (by decide +kernel) (by decide +kernel))) (hts _ (tb_of 79 (by decide +kernel) (by decide +kernel))) (hts _ (tb_of 80 (by decide +kernel) (by decide +kernel))) rfl (by rw [hml]; exact hl.1) rfl dX10_init_1 (Nat.le_of_ble_eq_true rfl) (Nat.le_of_ble_eq_true rfl) ?_
  refine W.eq (g2 := F0 m 4 ls []) rfl ?_
  refine lv_aload_n hx hb dX10_init_4 rfl (lv_at hl 0 rfl) ?_
  refine lv_sipush (v := Int32.ofInt (400)) hx hb dX10_init_5 (by decide) ?_
  refine nj_arr (ty := .int) (N' := 400) (a0 := (400, .inl fun _ => Int32.ofInt 0)) hx hb (hts _ (tb_of 94 (by decide +kernel) (by decide +kernel))) rfl hK hP hD hS hA 0 rfl (fun _ h => h) (fun _ => rfl) (by decide) (by decide) (by decide) (by decide) (by decide) dX10_init_8 (fun q8 H t8 et8 hP hD hS => ?_)
  refine W.widen (k := 1) (n := 400) (by decide) (by decide) ?_
  refine va_putF (D := (dC, dI)) (v := .ref q8) (ty := .array .int) (C := RX10) (T := TX10) hx hb hts ck_10.2.1 tyX10 tyX10_ok nmX10 hown hK hP hD hS 0 rfl rfl 0 (by decide) (hts _ (tb_of 87 (by decide +kernel) (by decide +kernel))) (fun _ h9 => h9) (by decide +kernel) hin (by decide +kernel) (by decide +kernel) rfl rfl (Nat.le_of_ble_eq_true rfl) dX10_init_10 (fun H locs hP hD hS => ?_)
  have hP : va_P (dC, dI) vwCl ((h0, .inr (10, [.ref q8, z0])) :: t8 : va_W) H := hP
  have hD : va_D A ((h0, .inr (10, [.ref q8, z0])) :: t8 : va_W) := hD
  subst et8
  exact W.vret hx hb hr (fun t ht hW => ⟨⟨[q8], rfl, trivial, by rw [ht]; exact hP, hD⟩, hS.F ht⟩) hS.2.2 dX10_init_13

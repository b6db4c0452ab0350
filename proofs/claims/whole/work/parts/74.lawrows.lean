/-! THE CLAIM OUT OF ONE WALK OF THE LAW'S BODY. Your part is whole_start (and what it stands on); all else here is the same for every law, but numbers. -/
def R_law : String := "TurnedPostsLaw"
def lw_P (b : Addr) (xs : List Int32) (args : Array Value) (s : State) : Prop := args = #[.ref b] ∧ s.IntsAt b xs ∧ xs.length ≤ 2560 ∧ (Jvm.Cond.and given_1 narrow_1).before args s = true
def lw_Q (_ : Array Value) (s : State) (o : Outcome) (t : State) : Prop := o = .returned (some (.int 1)) ∧ Framed s o t [] 600000 7302250
def lw_Z (below : List Frame) (a : Array Value) (s : State) : State → Prop := fun t => ∃ o, t.status = .running ∧ Ended t below o ∧ lw_Q a s o t
/-- the law's own end, with 1 on the stack, nothing written that was there before, its room as the claim has it -/
theorem lw_ret {p : Program} {l : Launch} {e : Env} {s : State} {m : MethodId} {below : List Frame} {meth : Method} {c : Code} {b : Nat} (hx : p.tables.exec = Jvm.exec) (hb : c.code = code) (hr : meth.sig.returnType = ret) (hlocks : meth.locks = false) {pc : Nat} {H : Heap} {ls : Array Slot} (hdg : decode code pc = .ok (.ireturn, 1)) : W p l e room_1 s m #[Value.ref b] below meth c H [] 600000 7302250 (lw_Z below #[Value.ref b] s) (F0 m pc ls [.int 1]) := by
  intro T hT X
  obtain ⟨fs, hret, hrun, hended, hW, hframe⟩ := X.leave (v := some (.int 1)) (hlocks := hlocks) (fun h => by rw [hr] at h; cases h)
  have hmeth' : T.vm.method? m = some meth := X.method'
  refine ⟨T.setFrames fs, ?_, .returned (some (.int 1)), hrun, hended, rfl, ⟨_, rfl⟩, hW, hframe⟩
  jvm_step X.here [X.here.top, hx, hb, hdg, hmeth', hr, ret, narrow_b1]
  (try refine ⟨rfl, ?_⟩); (try refine ⟨rfl, ?_⟩)
  first | (intro acts; rw [hret _ acts rfl rfl rfl]) | rw [hret _ _ rfl rfl rfl]
  exact Steps.refl _
/-- what holds at the law's entry: the machine, the code, the tables' words (any of lw_tbl by 'hts w (by decide +kernel)'), the script of L ints xs at the cell b, what the Statement gives of the start (any of its parts by flat_of_before) -/
def lw_At (p : Program) (s : State) (m : MethodId) (meth : Method) (c : Code) (b L : Nat) (xs : Nat → Int32) : Prop :=
  p.tables.exec = Jvm.exec ∧ c.code = code ∧ meth.sig.returnType = ret ∧ c.maxLocals = 4 ∧ s.vm.findClass R_law = some m.cls ∧ (∀ w ∈ lw_tbl, w.before #[Value.ref b] s = true) ∧ va_X b L xs s s.heap ∧ b < s.heap.size ∧ meth.locks = false ∧ (Jvm.Cond.and given_1 narrow_1).before #[Value.ref b] s = true

abbrev mL_law : MD := (cL_law, RL, yL_law, 4, ret, 70)
/-- the law's own context: its script, its room, its end -/
def LX : ZX → Nat → (Nat → Int32) → Prop := fun ⟨⟨_, _, _, _, _, sK, _⟩, _, _, R, s, _, args, below, _, _, A, cells, slots, Fin⟩ L xs =>
  A = (fun q => s.heap.size ≤ q) ∧ R = room_1 ∧ args = #[Value.ref (sK 10)] ∧ va_X (sK 10) L xs s s.heap ∧ sK 10 < s.heap.size ∧ L ≤ 2560 ∧ cells ≤ 600000 ∧ slots ≤ 7302250 ∧ Fin = lw_Z below #[Value.ref (sK 10)] s
theorem zi_ofNat (n : Nat) : Int32.ofNat n = Int32.ofInt (n : Int) := by
  apply Int32.toBitVec_inj.mp
  rw [ze_bv]
  rfl
theorem V_xlen {X : ZX} {L : Nat} {xs : Nat → Int32} {M : MD} {pc : Nat} {ls st : List AV} {μ : Mem} (hd : decode M.1 pc = .ok (.arraylength, 1)) (hX : LX X L xs) (kk : V X M (pc + 1) ls (vi (L : Int) :: st) μ) : V X M pc ls (vs 10 :: st) μ := by
  obtain ⟨⟨l, dC, dI, ad, ac, sK, sV⟩, p, e, R, s, m, args, below, meth, c, A, cells, slots, Fin⟩ := X
  obtain ⟨cc, own, y, nL, ret, d⟩ := M
  obtain ⟨hA, hR, hargs, hx1, hbl, hL, hc1', hc2', hF⟩ := hX
  intro C H locs la hP hS hl
  have k0 := kk C H locs la hP hS hl
  obtain ⟨hx, hb, hr, hlk, hml, hown, hts, hK, hD, hSX, hc1, hc2, hd1, hd2⟩ := C
  replace k0 : W p l e R s m args below meth c H locs cells slots Fin (F0 m (pc + 1) la (.int (Int32.ofInt (L : Int)) :: st.map (cv ad sK))) := k0
  rw [← zi_ofNat] at k0
  exact va_slen hx hb hx1 hbl (by rw [hA]; exact Nat.not_le.mpr hbl) hS hd k0
theorem V_xld {X : ZX} {L : Nat} {xs : Nat → Int32} {M : MD} {pc : Nat} {ls st : List AV} {μ : Mem} {i : Int} (hd : decode M.1 pc = .ok (.iaload, 1)) (hX : LX X L xs) (h0 : 0 ≤ i) (hn : i < L) (kk : V X M (pc + 1) ls (vi (xs i.toNat).toInt :: st) μ) : V X M pc ls (vi i :: vs 10 :: st) μ := by
  obtain ⟨⟨l, dC, dI, ad, ac, sK, sV⟩, p, e, R, s, m, args, below, meth, c, A, cells, slots, Fin⟩ := X
  obtain ⟨cc, own, y, nL, ret, d⟩ := M
  obtain ⟨hA, hR, hargs, hx1, hbl, hL, hc1', hc2', hF⟩ := hX
  intro C H locs la hP hS hl
  have k0 := kk C H locs la hP hS hl
  obtain ⟨hx, hb, hr, hlk, hml, hown, hts, hK, hD, hSX, hc1, hc2, hd1, hd2⟩ := C
  obtain ⟨j1, j2⟩ := zi_ix h0 hn (by omega)
  replace k0 : W p l e R s m args below meth c H locs cells slots Fin (F0 m (pc + 1) la (.int (Int32.ofInt (xs i.toNat).toInt) :: st.map (cv ad sK))) := k0
  rw [zi_of, ← j2] at k0
  exact va_sld hx hb hx1 hbl (by rw [hA]; exact Nat.not_le.mpr hbl) hS j1 hd k0
theorem V_same {X : ZX} {M : MD} {pc : Nat} {ls st : List AV} {μ : Mem} {v off : Int} {tgt : Nat} (hd : decode M.1 pc = .ok (.if_icmp .eq off, 3)) (ht : (pc : Int) + off = (tgt : Int)) (kt : V X M tgt ls st μ) : V X M pc ls (vi v :: vi v :: st) μ := by
  obtain ⟨⟨l, dC, dI, ad, ac, sK, sV⟩, p, e, R, s, m, args, below, meth, c, A, cells, slots, Fin⟩ := X
  obtain ⟨cc, own, y, nL, ret, d⟩ := M
  intro C H locs la hP hS hl
  have kt := kt C H locs la hP hS hl
  obtain ⟨hx, hb, hr, hlk, hml, hown, hts, hK, hD, hSX, hc1, hc2, hd1, hd2⟩ := C
  show W p l e R s m args below meth c H locs cells slots Fin (F0 m pc la (.int (Int32.ofInt v) :: .int (Int32.ofInt v) :: st.map (cv ad sK)))
  exact lv_icmp_eq hx hb hd ht (fun _ => kt) (fun h => absurd rfl h)
theorem V_lawret {X : ZX} {L : Nat} {xs : Nat → Int32} (hX : LX X L xs) {pc : Nat} {ls : List AV} {μ : Mem} (hd : decode code pc = .ok (.ireturn, 1)) : V X mL_law pc ls [vi 1] μ := by
  obtain ⟨⟨l, dC, dI, ad, ac, sK, sV⟩, p, e, R, s, m, args, below, meth, c, A, cells, slots, Fin⟩ := X
  obtain ⟨hA, hR, hargs, hx1, hbl, hL, hc1', hc2', hF⟩ := hX
  intro C H locs la hP hS hl
  obtain ⟨hx, hb, hr, hlk, hml, hown, hts, hK, hD, hSX, hc1, hc2, hd1, hd2⟩ := C
  subst hA hR hargs hF
  refine va_forget (fun q hq => hS.2.2 q hq) ?_
  refine W.widen (k := 600000) (n := 7302250) hc1' hc2' ?_
  exact lw_ret hx hb hr hlk hd
theorem iand_31 (a : Int) : 0 ≤ iand a 31 ∧ iand a 31 ≤ 31 := by
  unfold iand
  obtain ⟨j, hj, e⟩ := pk_andE (Int32.ofInt a) (m := Int32.ofInt 31) 5 (by decide)
  rw [e, ← ze_nI, zi_to ⟨by omega, by omega⟩]
  omega

/-! THE JUDGEMENT V: the machine at a pc, over ONE world whose cells have fixed numbers; contents are Ints -/
abbrev AV : Type := Int ⊕ (Int ⊕ (Nat ⊕ (Nat ⊕ Unit)))
abbrev vi (x : Int) : AV := .inl x
abbrev vl (x : Int) : AV := .inr (.inl x)
abbrev vr (k : Nat) : AV := .inr (.inr (.inl k))
abbrev vs (k : Nat) : AV := .inr (.inr (.inr (.inl k)))
abbrev un : AV := .inr (.inr (.inr (.inr ())))
abbrev Mem : Type := Nat → Nat → Int
/-- one place of one cell is written -/
def mu (μ : Mem) (k j : Nat) (v : Int) : Mem := fun a b => if a = k ∧ b = j then v else μ a b
/-- a whole cell is written -/
def mw (μ : Mem) (k : Nat) (r : Nat → Int) : Mem := fun a => if a = k then r else μ a
theorem mu_ne {μ : Mem} {k j : Nat} {v : Int} {a : Nat} (h : a ≠ k) : mu μ k j v a = μ a := by
  funext b; simp [mu, h]
theorem mw_ne {μ : Mem} {k : Nat} {r : Nat → Int} {a : Nat} (h : a ≠ k) : mw μ k r a = μ a := by simp [mw, h]
theorem mw_self {μ : Mem} {k : Nat} {r : Nat → Int} : mw μ k r k = r := by simp [mw]
theorem mu_eq (μ : Mem) (k j : Nat) (v : Int) : mu μ k j v = mw μ k (fun b => if b = j then v else μ k b) := by
  funext a b
  by_cases h : a = k
  · subst h; simp [mu, mw]
  · simp [mu, mw, h]
/-- launch, class ids, slots, cells' addresses, array classes, addresses of the string constants and of their bytes -/
abbrev ZG : Type := Launch × (Nat → ClassId) × (Nat → Nat → Nat) × (Nat → Nat) × (Nat → ClassId) × (Nat → Nat) × (Nat → Nat)
def cv (ad sK : Nat → Nat) (v : AV) : Value := match v with
  | .inl x => .int (Int32.ofInt x)
  | .inr (.inl x) => .long (Int64.ofInt x)
  | .inr (.inr (.inl k)) => .ref (ad k)
  | .inr (.inr (.inr (.inl k))) => .ref (sK k)
  | .inr (.inr (.inr (.inr _))) => .null
def ov (ad sK : Nat → Nat) (v : AV) : Option Value := match v with
  | .inr (.inr (.inr (.inr _))) => none
  | v => some (cv ad sK v)
def isU (v : AV) : Bool := match v with
  | .inr (.inr (.inr (.inr _))) => true
  | _ => false
def isL (v : AV) : Bool := match v with
  | .inr (.inl _) => true
  | _ => false
def lcl (ad sK : Nat → Nat) : Nat → List AV → List (Nat × Value)
  | _, [] => []
  | i, v :: t => if isU v then lcl ad sK (i + 1) t else (i, cv ad sK v) :: lcl ad sK (i + 1) t
def zv (ad : Nat → Nat) (k : Nat) (r : Nat → Int) (j t : Nat) : Value := match t with
  | 0 => .int (Int32.ofInt (r j))
  | 1 => .long (Int64.ofInt (r j))
  | 2 => .int (Int32.ofInt (r j))
  | _ => .ref (ad (zr k j))
def zc (ad : Nat → Nat) (ac : Nat → ClassId) (k : Nat) (r : Nat → Int) : va_E := match zk k with
  | .inl c => .inr (c, (zf c).mapIdx (fun j t => zv ad k r j t))
  | .inr (t, n) => .inl (ac t, n, if t = 1 then .inr (.inl fun i => Int64.ofInt (r i)) else .inl fun i => Int32.ofInt (r i))
def zw (ad : Nat → Nat) (ac : Nat → ClassId) (μ : Mem) : va_W := ZL.map (fun k => (ad k, zc ad ac k (μ k)))
/-- the addresses are apart, and of a kind -/
def zD (A : Nat → Prop) (ad : Nat → Nat) : Prop := (∀ i j, i ∈ ZL → j ∈ ZL → ad i = ad j → i = j) ∧ ∀ k ∈ ZL, A (ad k)
def wA (ad : Nat → Nat) : Nat → Prop := fun q => ∃ k, k ∈ ZL ∧ ad k = q
abbrev zT (ac : Nat → ClassId) : List (ClassId × FieldType) := [(ac 0, .int), (ac 1, .long), (ac 2, .boolean)]
def sxB : List (List Int32) := [[112, 108, 97, 99, 101, 115], [114, 111, 97, 100], [103, 111, 101, 115]]
abbrev nw1 : Cond := .methodLinkNest RX6 62 yX11_isIn RX11
abbrev nw2 : Cond := .methodLinkNest RX9 49 yX11_isIn RX11
abbrev nw3 : Cond := .methodLinkNest RX5 38 yX11_isIn RX11
/-- what lies outside the world and is only read: string constants, a static, links of nest mates -/
def SX (A : Nat → Prop) (sK _sV : Nat → Nat) (U : State) : Prop := vk_S 3 [6, 4, 4] sxB sK (fun i => sK (i + 3)) A U U.heap ∧ (vk_R RX7 52 "places" (sK 0) U ∧ vk_R RX7 64 "road" (sK 1) U ∧ vk_R RX7 69 "goes" (sK 2) U) ∧ va_Z "java/lang/String" "COMPACT_STRINGS" "Z" (.int 1) A U U.heap ∧ va_Nw nw1 U ∧ va_Nw nw2 U ∧ va_Nw nw3 U ∧ (va_Z "jdk/internal/util/Preconditions" "SIOOBE_FORMATTER" "Ljava/util/function/BiFunction;" .null A U U.heap ∨ va_Z "jdk/internal/util/Preconditions" "SIOOBE_FORMATTER" "Ljava/util/function/BiFunction;" (.ref (sK 9)) A U U.heap)
theorem SX.same {A : Nat → Prop} {sK sV : Nat → Nat} {u U : State} (hv : u.vm = U.vm) (hh : U.heap = u.heap) (h : SX A sK sV u) : SX A sK sV U := by
  obtain ⟨h1, ⟨h2, h3, h4⟩, h5, h6, h7, h8, h9⟩ := h
  have ha : u.vm.Alike U.vm := by rw [hv]; exact Vm.Alike.refl _
  refine ⟨by rw [hh]; exact vk_S.moved ha h1, ⟨vk_R.same hv.symm h2, vk_R.same hv.symm h3, vk_R.same hv.symm h4⟩, by rw [hh]; exact va_Z.moved ha h5, va_Nw.same rfl hv h6, va_Nw.same rfl hv h7, va_Nw.same rfl hv h8, by rw [hh]; exact h9.imp (va_Z.moved ha) (va_Z.moved ha)⟩
theorem SX.to {A B : Nat → Prop} {sK sV : Nat → Nat} {s U : State} {H : Heap} {locs : List Loc} (h : SX A sK sV s) (hS : va_S A s.heap H locs) (hU : U.heap = H) (hW : s.WarmedH U.vm) (hAB : ∀ q, B q → A q) : SX B sK sV U := by
  obtain ⟨h1, ⟨h2, h3, h4⟩, h5, h6, h7, h8, h9⟩ := h
  refine ⟨by rw [hU]; exact ((vk_S.moved hW.alike h1).kept hS.2.1).narrow hAB, ⟨vk_R.warm hW h2, vk_R.warm hW h3, vk_R.warm hW h4⟩, by rw [hU]; exact ((va_Z.moved hW.alike h5).kept hS.2.1).narrow hAB, va_Nw.warmM hW h6, va_Nw.warmM hW h7, va_Nw.warmM hW h8, by rw [hU]; exact h9.imp (fun h => ((va_Z.moved hW.alike h).kept hS.2.1).narrow hAB) (fun h => ((va_Z.moved hW.alike h).kept hS.2.1).narrow hAB)⟩
def TB : List Cond := lw_tbl.filter goodWord
theorem tb_of {w : Cond} (i : Nat) (h : lw_tbl[i]? = some w) (g : goodWord w = true) : w ∈ TB := List.mem_filter.mpr ⟨List.mem_of_getElem? h, g⟩
theorem tb_good (w : Cond) (h : w ∈ TB) : (w.onTables && w.keeps) = true ∨ ∃ ty, w = .arrayClass ty := good_of_word (List.mem_filter.mp h).2
/-- a method: code, class, name, locals, return type, depth -/
abbrev MD : Type := ByteArray × String × MethodName × Nat × Option FieldType × Nat
abbrev zrm (d : Nat) : Room := { frames := d, cells := 0, slots := 0, locals := 64 * d }
abbrev ZX : Type := ZG × Program × Env × Room × State × MethodId × Array Value × List Frame × Method × Code × (Nat → Prop) × Nat × Nat × (State → Prop)
def CX : ZX → MD → Prop := fun ⟨⟨_, dC, dI, ad, ac, sK, sV⟩, p, _, R, s, m, args, _, meth, c, A, cells, slots, _⟩ ⟨cc, own, _, nL, ret, d⟩ =>
  p.tables.exec = Jvm.exec ∧ c.code = cc ∧ meth.sig.returnType = ret ∧ meth.locks = false ∧ c.maxLocals = nL ∧ s.vm.findClass own = some m.cls ∧ (∀ w ∈ TB, w.before args s = true) ∧ va_K (dC, dI) vwCl (zT ac) s ∧ zD A ad ∧ SX A sK sV s ∧ cells ≤ R.cells ∧ slots ≤ R.slots ∧ d ≤ R.frames ∧ 64 * d ≤ R.locals
def VB : ZX → MD → Nat → List AV → List AV → Mem → Prop := fun ⟨⟨l, dC, dI, ad, ac, sK, _⟩, p, e, R, s, m, args, below, meth, c, A, cells, slots, Fin⟩ ⟨_, _, _, nL, _, _⟩ pc ls st μ =>
  ∀ (H : Heap) (locs : List Loc) (la : Array Slot), va_P (dC, dI) vwCl (zw ad ac μ) H → va_S A s.heap H locs → lv_has la nL (lcl ad sK 0 ls) →
    W p l e R s m args below meth c H locs cells slots Fin (F0 m pc la (st.map (cv ad sK)))
def V (X : ZX) (M : MD) (pc : Nat) (ls st : List AV) (μ : Mem) : Prop := CX X M → VB X M pc ls st μ
/-- the world and all else at a method's start -/
def Wd : ZG → Mem → State → Prop := fun ⟨_, dC, dI, ad, ac, sK, sV⟩ μ U => va_P (dC, dI) vwCl (zw ad ac μ) U.heap ∧ va_K (dC, dI) vwCl (zT ac) U ∧ zD (wA ad) ad ∧ SX (wA ad) sK sV U
def Qe : ZG → (AV → Mem → Prop) → Array Value → State → Outcome → State → Prop := fun ⟨_, dC, dI, ad, ac, sK, _⟩ Q _ st oc t =>
  (∃ (v : AV) (μ : Mem), oc = .returned (ov ad sK v) ∧ Q v μ ∧ va_P (dC, dI) vwCl (zw ad ac μ) t.heap) ∧ va_F (wA ad) st t
/-- the contract: with these arguments and this memory the method returns, and Q holds of answer and memory -/
def SP : MD → List AV → Mem → (AV → Mem → Prop) → Prop := fun ⟨cc, _, y, nL, ret, d⟩ As μ Q =>
  ∀ (l : Launch) (dC : Nat → ClassId) (dI : Nat → Nat → Nat) (ad : Nat → Nat) (ac : Nat → ClassId) (sK sV : Nat → Nat),
    Met l y (Cond.code y cc nL ret :: TB) (zrm d) (fun v U => v = (As.map (cv ad sK)).toArray ∧ Wd (l, dC, dI, ad, ac, sK, sV) μ U) (Qe (l, dC, dI, ad, ac, sK, sV) Q) 0 0 (wA ad)
/-- a context made for a contract with Q -/
def isM : ZX → (AV → Mem → Prop) → Prop := fun ⟨G, _, _, _, s, _, args, below, _, _, A, cells, slots, Fin⟩ Q =>
  A = wA G.2.2.2.1 ∧ cells = 0 ∧ slots = 0 ∧ Fin = MQ below (Qe G Q) args s 0 0 (wA G.2.2.2.1)
theorem lcl_mem {ad sK : Nat → Nat} {q : Nat × Value} : ∀ (ls : List AV) (j : Nat), q ∈ lcl ad sK j ls ↔ ∃ (n : Nat) (v : AV), ls[n]? = some v ∧ isU v = false ∧ q = (j + n, cv ad sK v) := by
  intro ls
  induction ls with
  | nil => intro j; simp [lcl]
  | cons a t ih =>
    intro j
    have key : q ∈ lcl ad sK j (a :: t) ↔ (isU a = false ∧ q = (j, cv ad sK a)) ∨ q ∈ lcl ad sK (j + 1) t := by
      cases h : isU a <;> simp [lcl, h]
    rw [key, ih (j + 1)]
    constructor
    · rintro (⟨h1, h2⟩ | ⟨n, v, h1, h2, h3⟩)
      · exact ⟨0, a, rfl, h1, by rw [h2]; rfl⟩
      · exact ⟨n + 1, v, by simpa using h1, h2, by rw [h3]; congr 1; omega⟩
    · rintro ⟨n, v, h1, h2, h3⟩
      cases n with
      | zero => cases h1; exact Or.inl ⟨h2, h3⟩
      | succ n => exact Or.inr ⟨n, v, by simpa using h1, h2, by rw [h3]; congr 1; omega⟩
theorem lcl_get {ad sK : Nat → Nat} {la : Array Slot} {nL : Nat} {ls : List AV} (h : lv_has la nL (lcl ad sK 0 ls)) {i : Nat} {v : AV} (hv : ls[i]? = some v) (hu : isU v = false) : la[i]? = some (.val (cv ad sK v)) := by
  have := h.2.2 (i, cv ad sK v) ((lcl_mem ls 0).mpr ⟨i, v, hv, hu, by simp⟩)
  exact this
theorem cv_cat {ad sK : Nat → Nat} (v : AV) : (cv ad sK v).category = if isL v then 2 else 1 := by
  rcases v with x | x | x | x | x <;> rfl
/-- the listed locals behind a store -/
theorem lcl_set1 {ad sK : Nat → Nat} {la : Array Slot} {nL i : Nat} {ls : List AV} {v : AV} (hi : i < ls.length) (hp : ∀ j w, j + 1 = i → ls[j]? = some w → isL w = false)
    (h : lv_has la nL ((i, cv ad sK v) :: (lcl ad sK 0 ls).filter (fun q => !(q.1 == i) && !(q.1 + 1 == i && q.2.category == 2)))) : lv_has la nL (lcl ad sK 0 (ls.set i v)) := by
  refine ⟨h.1, h.2.1, fun q hq => h.2.2 q ?_⟩
  obtain ⟨n, w, h1, h2, h3⟩ := (lcl_mem _ 0).mp hq
  rw [Nat.zero_add] at h3
  by_cases e : n = i
  · subst e
    rw [List.getElem?_set_self hi] at h1
    cases h1
    rw [h3]; exact List.mem_cons_self
  · rw [List.getElem?_set_ne (Ne.symm e)] at h1
    refine List.mem_cons_of_mem _ (List.mem_filter.mpr ⟨(lcl_mem _ 0).mpr ⟨n, w, h1, h2, by rw [h3, Nat.zero_add]⟩, ?_⟩)
    rw [h3]
    have e1 : (n == i) = false := by simpa using e
    by_cases e2 : n + 1 = i
    · have := hp n w e2 h1
      simp [e1, cv_cat, this]
    · have e3 : (n + 1 == i) = false := by simpa using e2
      simp [e1, e3]
theorem lcl_set2 {ad sK : Nat → Nat} {la : Array Slot} {nL i : Nat} {ls : List AV} {v : AV} (hi : i + 1 < ls.length) (hp : ∀ j w, j + 1 = i → ls[j]? = some w → isL w = false)
    (h : lv_has la nL ((i, cv ad sK v) :: (lcl ad sK 0 ls).filter (fun q => !(q.1 == i) && (!(q.1 == i + 1) && !(q.1 + 1 == i && q.2.category == 2))))) : lv_has la nL (lcl ad sK 0 ((ls.set i v).set (i + 1) un)) := by
  refine ⟨h.1, h.2.1, fun q hq => h.2.2 q ?_⟩
  obtain ⟨n, w, h1, h2, h3⟩ := (lcl_mem _ 0).mp hq
  rw [Nat.zero_add] at h3
  by_cases e0 : n = i + 1
  · subst e0
    rw [List.getElem?_set_self (by simpa using hi)] at h1
    cases h1
    exact absurd h2 (by decide)
  · rw [List.getElem?_set_ne (Ne.symm e0)] at h1
    by_cases e : n = i
    · subst e
      rw [List.getElem?_set_self (by omega)] at h1
      cases h1
      rw [h3]; exact List.mem_cons_self
    · rw [List.getElem?_set_ne (Ne.symm e)] at h1
      refine List.mem_cons_of_mem _ (List.mem_filter.mpr ⟨(lcl_mem _ 0).mpr ⟨n, w, h1, h2, by rw [h3, Nat.zero_add]⟩, ?_⟩)
      rw [h3]
      have e1 : (n == i) = false := by simpa using e
      have e4 : (n == i + 1) = false := by simpa using e0
      by_cases e2 : n + 1 = i
      · have := hp n w e2 h1
        simp [e1, e4, cv_cat, this]
      · have e3 : (n + 1 == i) = false := by simpa using e2
        simp [e1, e3, e4]
/-- a cell of the world, by its place in the list -/
theorem zw_at {ad : Nat → Nat} {ac : Nat → ClassId} (μ : Mem) {k : Nat} (hk : k ∈ ZL) : ∃ q : Nat, ZL[q]? = some k ∧ (zw ad ac μ)[q]? = some (ad k, zc ad ac k (μ k)) := by
  obtain ⟨q, hq⟩ := List.getElem?_of_mem hk
  exact ⟨q, hq, by simp [zw, hq]⟩
theorem zw_set {ad : Nat → Nat} {ac : Nat → ClassId} {μ : Mem} {k q : Nat} (r : Nat → Int) (hq : ZL[q]? = some k) : (zw ad ac μ).set q (ad k, zc ad ac k r) = zw ad ac (mw μ k r) := by
  apply List.ext_getElem?
  intro i
  by_cases e : i = q
  · subst e
    have hl : i < (zw ad ac μ).length := by simpa [zw] using (List.getElem?_eq_some_iff.mp hq).1
    rw [List.getElem?_set_self hl]
    simp [zw, hq, mw_self]
  · rw [List.getElem?_set_ne (Ne.symm e)]
    cases hi : ZL[i]? with
    | none => simp [zw, hi]
    | some k' =>
      have hne : k' ≠ k := by
        intro h
        subst h
        exact e (va_nd_inj ZL ZL_nd i q k' hi hq)
      simp [zw, hi, mw_ne hne]
theorem zD.va {A : Nat → Prop} {ad : Nat → Nat} {ac : Nat → ClassId} {μ : Mem} (h : zD A ad) : va_D A (zw ad ac μ) := by
  have key : ∀ (i : Nat) (p : Nat × va_E), (zw ad ac μ)[i]? = some p → ∃ k, ZL[i]? = some k ∧ p.1 = ad k := by
    intro i p hp
    cases hi : ZL[i]? with
    | none => simp [zw, hi] at hp
    | some k =>
      simp [zw, hi] at hp
      exact ⟨k, rfl, by rw [← hp]⟩
  refine ⟨fun i j p q hp hq e => ?_, fun k q hq => ?_⟩
  · obtain ⟨k1, h1, h2⟩ := key i p hp
    obtain ⟨k2, h3, h4⟩ := key j q hq
    have e1 := h.1 k1 k2 (List.mem_of_getElem? h1) (List.mem_of_getElem? h3) (by rw [← h2, ← h4, e])
    subst e1
    exact va_nd_inj ZL ZL_nd i j k1 h1 h3
  · obtain ⟨k1, h1, h2⟩ := key k q hq
    rw [h2]; exact h.2 k1 (List.mem_of_getElem? h1)
theorem zc_obj {ad : Nat → Nat} {ac : Nat → ClassId} {k c : Nat} {r : Nat → Int} (h : zk k = .inl c) : zc ad ac k r = .inr (c, (zf c).mapIdx (fun j t => zv ad k r j t)) := by simp [zc, h]
theorem zc_arr {ad : Nat → Nat} {ac : Nat → ClassId} {k n t : Nat} {r : Nat → Int} (h : zk k = .inr (t, n)) (ht : t ≠ 1) : zc ad ac k r = .inl (ac t, n, .inl fun i => Int32.ofInt (r i)) := by simp [zc, h, ht]
theorem zc_arl {ad : Nat → Nat} {ac : Nat → ClassId} {k n : Nat} {r : Nat → Int} (h : zk k = .inr (1, n)) : zc ad ac k r = .inl (ac 1, n, .inr (.inl fun i => Int64.ofInt (r i))) := by simp [zc, h]

theorem start_K {s : State} {b : Nat} (hts0 : ∀ w ∈ lw_tbl, w.before #[Value.ref b] s = true) : ∃ (dC : Nat → ClassId) (dI : Nat → Nat → Nat) (ac : Nat → ClassId), va_K (dC, dI) vwCl (zT ac) s := by
  have hts : ∀ w ∈ TB, w.before #[Value.ref b] s = true := fun w hw => hts0 w (List.mem_filter.mp hw).1
  obtain ⟨c0, i0, hK0⟩ := u_known (C := RX0) (T := TX0) (N := 5) (n := 5) hts ck_0.2.1 (hts _ (tb_of 265 (by decide +kernel) (by decide +kernel)))
  obtain ⟨c1, i1, hK1⟩ := u_known (C := RX1) (T := TX1) (N := 3) (n := 3) hts ck_1.2.1 (hts _ (tb_of 208 (by decide +kernel) (by decide +kernel)))
  obtain ⟨c2, i2, hK2⟩ := u_known (C := RX2) (T := TX2) (N := 1) (n := 1) hts ck_2.2.1 (hts _ (tb_of 287 (by decide +kernel) (by decide +kernel)))
  obtain ⟨c3, i3, hK3⟩ := u_known (C := RX3) (T := TX3) (N := 3) (n := 3) hts ck_3.2.1 (hts _ (tb_of 297 (by decide +kernel) (by decide +kernel)))
  obtain ⟨c4, i4, hK4⟩ := u_known (C := RX4) (T := TX4) (N := 13) (n := 13) hts ck_4.2.1 (hts _ (tb_of 96 (by decide +kernel) (by decide +kernel)))
  obtain ⟨c5, i5, hK5⟩ := u_known (C := RX5) (T := TX5) (N := 4) (n := 4) hts ck_5.2.1 (hts _ (tb_of 224 (by decide +kernel) (by decide +kernel)))
  obtain ⟨c6, i6, hK6⟩ := u_known (C := RX6) (T := TX6) (N := 4) (n := 4) hts ck_6.2.1 (hts _ (tb_of 164 (by decide +kernel) (by decide +kernel)))
  obtain ⟨c7, i7, hK7⟩ := u_known (C := RX7) (T := TX7) (N := 5) (n := 5) hts ck_7.2.1 (hts _ (tb_of 142 (by decide +kernel) (by decide +kernel)))
  obtain ⟨c8, i8, hK8⟩ := u_known (C := RX8) (T := TX8) (N := 5) (n := 5) hts ck_8.2.1 (hts _ (tb_of 243 (by decide +kernel) (by decide +kernel)))
  obtain ⟨c9, i9, hK9⟩ := u_known (C := RX9) (T := TX9) (N := 6) (n := 6) hts ck_9.2.1 (hts _ (tb_of 183 (by decide +kernel) (by decide +kernel)))
  obtain ⟨c10, i10, hK10⟩ := u_known (C := RX10) (T := TX10) (N := 2) (n := 2) hts ck_10.2.1 (hts _ (tb_of 82 (by decide +kernel) (by decide +kernel)))
  obtain ⟨c11, i11, hK11⟩ := u_known (C := RX11) (T := TX11) (N := 13) (n := 13) hts ck_11.2.1 (hts _ (tb_of 74 (by decide +kernel) (by decide +kernel)))
  obtain ⟨c12, i12, hK12⟩ := u_known (C := RX12) (T := TX12) (N := 56) (n := 56) hts ck_12.2.1 (hts _ (tb_of 1039 (by decide +kernel) (by decide +kernel)))
  obtain ⟨a0, k0, p0, g0, h0, f0⟩ := Cond.arrayClass_spec (hts (.arrayClass .int) (tb_of 94 (by decide +kernel) (by decide +kernel)))
  obtain ⟨a1, k1, p1, g1, h1, f1⟩ := Cond.arrayClass_spec (hts (.arrayClass .long) (tb_of 1212 (by decide +kernel) (by decide +kernel)))
  obtain ⟨a2, k2, p2, g2, h2, f2⟩ := Cond.arrayClass_spec (hts (.arrayClass .boolean) (tb_of 1213 (by decide +kernel) (by decide +kernel)))
  refine ⟨fun k => if k = 0 then c0 else if k = 1 then c1 else if k = 2 then c2 else if k = 3 then c3 else if k = 4 then c4 else if k = 5 then c5 else if k = 6 then c6 else if k = 7 then c7 else if k = 8 then c8 else if k = 9 then c9 else if k = 10 then c10 else if k = 11 then c11 else c12, fun k => if k = 0 then i0 else if k = 1 then i1 else if k = 2 then i2 else if k = 3 then i3 else if k = 4 then i4 else if k = 5 then i5 else if k = 6 then i6 else if k = 7 then i7 else if k = 8 then i8 else if k = 9 then i9 else if k = 10 then i10 else if k = 11 then i11 else i12, fun t => if t = 0 then a0 else if t = 1 then a1 else a2, fun k q hq => ?_, fun k q hq => ?_⟩
  · match k, hq with
    | 0, hq => cases hq; exact hK0
    | 1, hq => cases hq; exact hK1
    | 2, hq => cases hq; exact hK2
    | 3, hq => cases hq; exact hK3
    | 4, hq => cases hq; exact hK4
    | 5, hq => cases hq; exact hK5
    | 6, hq => cases hq; exact hK6
    | 7, hq => cases hq; exact hK7
    | 8, hq => cases hq; exact hK8
    | 9, hq => cases hq; exact hK9
    | 10, hq => cases hq; exact hK10
    | 11, hq => cases hq; exact hK11
    | 12, hq => cases hq; exact hK12
    | k + 13, hq => simp [vwCl] at hq
  · match k, hq with
    | 0, hq => cases hq; exact ⟨fun n z => ⟨fun k h => (by cases h), k0, h0, p0, f0⟩, g0⟩
    | 1, hq => cases hq; exact ⟨fun n z => ⟨fun k h => (by cases h), k1, h1, p1, f1⟩, g1⟩
    | 2, hq => cases hq; exact ⟨fun n z => ⟨fun k h => (by cases h), k2, h2, p2, f2⟩, g2⟩
    | k + 3, hq => simp at hq
theorem start_S {s : State} {b : Nat} (hts0 : ∀ w ∈ lw_tbl, w.before #[Value.ref b] s = true) (hgv : (Jvm.Cond.and given_1 narrow_1).before #[Value.ref b] s = true) : ∃ sK : Nat → Nat, sK 10 = b ∧ ∀ sV, SX (fun q => s.heap.size ≤ q) sK sV s := by
  have hs := flat_of_before _ hgv
  have hA : ∀ a : Nat, a < s.heap.size → ¬ (fun q => s.heap.size ≤ q) a := fun a h => Nat.not_le.mpr h
  obtain ⟨adK, adV, hV, hE⟩ := vk_Sof (args := #[Value.ref b]) (s := s) (N := 3) (tm := fun i => .string "TurnedPosts$Reader" (([52, 64, 69] : List Nat).getD i 0)) (len := [6, 4, 4]) (byt := sxB) (A := fun q => s.heap.size ≤ q)
    (fun i hi => by rcases (show i = 0 ∨ i = 1 ∨ i = 2 by omega) with rfl | rfl | rfl <;> decide)
    (fun i hi => by rcases (show i = 0 ∨ i = 1 ∨ i = 2 by omega) with rfl | rfl | rfl <;> exact hs _ (by decide +kernel))
    (fun i hi => by rcases (show i = 0 ∨ i = 1 ∨ i = 2 by omega) with rfl | rfl | rfl <;> exact hs _ (by decide +kernel))
    (fun i hi => by rcases (show i = 0 ∨ i = 1 ∨ i = 2 by omega) with rfl | rfl | rfl <;> exact hs _ (by decide +kernel))
    (fun i hi => by rcases (show i = 0 ∨ i = 1 ∨ i = 2 by omega) with rfl | rfl | rfl <;> exact hs _ (by decide +kernel))
    (fun i hi j hj => by
      rcases (show i = 0 ∨ i = 1 ∨ i = 2 by omega) with rfl | rfl | rfl
      · have hj : j < 6 := hj
        rcases (show j = 0 ∨ j = 1 ∨ j = 2 ∨ j = 3 ∨ j = 4 ∨ j = 5 by omega) with rfl | rfl | rfl | rfl | rfl | rfl <;> exact hs _ (by decide +kernel)
      · have hj : j < 4 := hj
        rcases (show j = 0 ∨ j = 1 ∨ j = 2 ∨ j = 3 by omega) with rfl | rfl | rfl | rfl <;> exact hs _ (by decide +kernel)
      · have hj : j < 4 := hj
        rcases (show j = 0 ∨ j = 1 ∨ j = 2 ∨ j = 3 by omega) with rfl | rfl | rfl | rfl <;> exact hs _ (by decide +kernel))
    (fun i j hi hj hij => by
      rcases (show i = 0 ∨ i = 1 ∨ i = 2 by omega) with rfl | rfl | rfl <;> rcases (show j = 0 ∨ j = 1 ∨ j = 2 by omega) with rfl | rfl | rfl <;> first | exact absurd rfl hij | exact Or.inl (hs _ (by decide +kernel)) | exact Or.inr (hs _ (by decide +kernel))) hA
  have hC := va_Zof (A := fun q => s.heap.size ≤ q) (hts0 _ (List.mem_of_getElem? (i := 418) (by decide +kernel))) (hts0 _ (List.mem_of_getElem? (i := 66) (by decide +kernel))) (va_eqi (C := "java/lang/String") (n := "COMPACT_STRINGS") (d := "Z") (z := 1) (hs _ (by decide +kernel))) hA
  have hQ := va_Zqof (C := "jdk/internal/util/Preconditions") (n := "SIOOBE_FORMATTER") (d := "Ljava/util/function/BiFunction;") (A := fun q => s.heap.size ≤ q) (hts0 _ (List.mem_of_getElem? (i := 434) (by decide +kernel))) (hts0 _ (List.mem_of_getElem? (i := 68) (by decide +kernel))) (hs _ (by decide +kernel)) hA
  have hN1 : va_Nw nw1 s := va_Nw.of rfl (hts0 _ (List.mem_of_getElem? (i := 682) (by decide +kernel)))
  have hN2 : va_Nw nw2 s := va_Nw.of rfl (hts0 _ (List.mem_of_getElem? (i := 700) (by decide +kernel)))
  have hN3 : va_Nw nw3 s := va_Nw.of rfl (hts0 _ (List.mem_of_getElem? (i := 920) (by decide +kernel)))
  obtain ⟨t, hT⟩ : ∃ t : Nat, va_Z "jdk/internal/util/Preconditions" "SIOOBE_FORMATTER" "Ljava/util/function/BiFunction;" .null (fun q => s.heap.size ≤ q) s s.heap ∨ va_Z "jdk/internal/util/Preconditions" "SIOOBE_FORMATTER" "Ljava/util/function/BiFunction;" (.ref t) (fun q => s.heap.size ≤ q) s s.heap := by
    rcases hQ with h | ⟨t, h⟩
    · exact ⟨0, Or.inl h⟩
    · exact ⟨t, Or.inr h⟩
  refine ⟨fun i => if i < 3 then adK i else if i < 6 then adV (i - 3) else if i = 9 then t else b, rfl, fun _ => ⟨⟨fun i hi => ?_, fun i j hi hj he => ?_⟩, ⟨vk_R.of (hts0 _ (List.mem_of_getElem? (i := 404) (by decide +kernel))) (hE 0 (by decide)), vk_R.of (hts0 _ (List.mem_of_getElem? (i := 487) (by decide +kernel))) (hE 1 (by decide)), vk_R.of (hts0 _ (List.mem_of_getElem? (i := 520) (by decide +kernel))) (hE 2 (by decide))⟩, hC, hN1, hN2, hN3, hT⟩⟩
  · rcases (show i = 0 ∨ i = 1 ∨ i = 2 by omega) with rfl | rfl | rfl
    · exact hV.1 0 hi
    · exact hV.1 1 hi
    · exact hV.1 2 hi
  · refine hV.2 i j hi hj ?_
    have e1 : (if i < 3 then adK i else if i < 6 then adV (i - 3) else if i = 9 then t else b) = adK i := if_pos hi
    have e2 : (if j < 3 then adK j else if j < 6 then adV (j - 3) else if j = 9 then t else b) = adK j := if_pos hj
    rw [← e1, ← e2]; exact he
theorem set_c0 (ls : List Nat) : ls = ls := rfl
set_option maxHeartbeats 4000000 in
set_option maxRecDepth 100000 in
theorem whole_start {p : Program} {e : Env} {s : State} {m : MethodId} {below : List Frame} {meth : Method} {c : Code} (l : Launch) {b L : Nat} {xs : Nat → Int32} (hL : L ≤ 2560) (C0 : lw_At p s m meth c b L xs) : W p l e room_1 s m #[Value.ref b] below meth c s.heap [] 0 0 (lw_Z below #[Value.ref b] s) (entryFrame m ([Value.ref b] : List Value).toArray 4) := by
  obtain ⟨hx, hb, hr, hml, hown, hts0, hX, hbl, hlk, hgv⟩ := C0
  have hts : ∀ w ∈ TB, w.before #[Value.ref b] s = true := fun w hw => hts0 w (List.mem_filter.mp hw).1
  have hA : ∀ q : Nat, s.heap.size ≤ q → (fun q : Nat => s.heap.size ≤ q) q := fun _ h => h
  obtain ⟨dC, dI, ac, hK⟩ := start_K hts0
  obtain ⟨sK, hsK, hSX⟩ := start_S hts0 hgv
  have hN9 : va_Nw nx_9 s := va_Nw.of rfl (hts0 _ (List.mem_of_getElem? (i := 83) (by decide +kernel)))
  have hN18 : va_Nw nx_18 s := va_Nw.of rfl (hts0 _ (List.mem_of_getElem? (i := 97) (by decide +kernel)))
  have hN78 : va_Nw nx_78 s := va_Nw.of rfl (hts0 _ (List.mem_of_getElem? (i := 266) (by decide +kernel)))
  have hN85 : va_Nw nx_85 s := va_Nw.of rfl (hts0 _ (List.mem_of_getElem? (i := 288) (by decide +kernel)))
  have hS : va_S (fun q : Nat => s.heap.size ≤ q) s.heap s.heap [] := va_S.rf
  have hP : va_P (dC, dI) vwCl [] s.heap := fun k q h => by simp at h
  have hD : va_D (fun q : Nat => s.heap.size ≤ q) [] := ⟨fun i j p q h => by simp at h, fun k q h => by simp at h⟩
  have hl := lv_entry ([.ref b]) (n := 4) (Nat.le_of_ble_eq_true rfl)
  rw [lg_entry_eq]
  generalize (lg_sl ([.ref b]) ++ List.replicate (4 - (lg_sl ([.ref b])).length) Slot.unset).toArray = ls at hl ⊢
  have hl : lv_has ls 4 [(0, .ref b)] := hl
  refine va_new (ci := 11) (fs := [.null, .null, .null, .null, .null, .null, .null, .null, .null, .null, .null, .null, .null]) (C := RX11) (T := TX11) (N := 13) hx hb hts ck_11.2.1 tyX11 tyX11_ok hown (hts _ (tb_of 73 (by decide +kernel) (by decide +kernel))) (hts _ (tb_of 74 (by decide +kernel) (by decide +kernel))) (hts _ (tb_of 53 (by decide +kernel) (by decide +kernel))) hK hP hD hS hA rfl (by decide +kernel) (Nat.le_of_ble_eq_true rfl) (Nat.le_of_ble_eq_true rfl) dL_law_0 (fun q0 H hP hD hS => ?_)
  refine W.widen (k := 1) (n := 13) (by decide) (by decide) ?_
  refine lv_dup hx hb dL_law_3 rfl ?_
  refine ci_go (wr := ([] : va_W)) (W2 := wX11 ac q0) (va_runI (As := []) (rest := [.ref q0]) ⟨hx, hb, hml, hown, hts⟩ (ci_11 l dC dI ac q0 H.size) (cwI 0 hts (tb_in (Y := (cX11_init, RX11, yX11_init, 1, none, 0)) (tb_of 77 (by decide +kernel) (by decide +kernel))) rfl rfl rfl (hts _ (tb_of 53 (by decide +kernel) (by decide +kernel))) (hts _ (tb_of 75 (by decide +kernel) (by decide +kernel))) (hts _ (tb_of 76 (by decide +kernel) (by decide +kernel))) rfl (by decide +kernel) ⟨Nat.le_of_ble_eq_true rfl, Nat.le_of_ble_eq_true rfl⟩) (ci_pre (wr := ([] : va_W)) hP hK (fun U hW => ⟨va_Nw.warmM hW hN9, va_Nw.warmM hW hN18, va_Nw.warmM hW hN78, va_Nw.warmM hW hN85⟩) (fun U g mk a h => ⟨va_Nw.same rfl rfl h.1, va_Nw.same rfl rfl h.2.1, va_Nw.same rfl rfl h.2.2.1, va_Nw.same rfl rfl h.2.2.2⟩)) rfl rfl hl.1 rfl (lv_room (Nat.le_of_ble_eq_true rfl)) dL_law_4 ⟨Nat.le_of_ble_eq_true rfl, Nat.le_of_ble_eq_true rfl⟩) hP hD hS hA (fun u H locs hP hD hS => ?_)
  have hP : va_P (dC, dI) vwCl (wX11 ac q0 u) H := hP
  have hD : va_D (fun q : Nat => s.heap.size ≤ q) (wX11 ac q0 u) := hD
  refine W.widen (k := 55) (n := 1640) (by decide) (by decide) ?_
  refine lv_astore_n hx hb dL_law_7 rfl hl (by decide) rfl (fun ls hl => ?_)
  refine va_new (ci := 12) (fs := [z0, z0, .null, .null, .null, z0, .null, .null, .null, .null, .null, .null, .null, .null, .null, .null, z0, .null, z0, z0, z0, .long (Int64.ofInt 0), z0, z0, z0, z0, z0, .null, .null, .null, z0, .null, .null, .null, z0, z0, z0, z0, z0, .null, .null, z0, .null, .null, .null, .null, .null, .null, z0, z0, .null, .null, .null, .null, .null, .null]) (C := RX12) (T := TX12) (N := 56) hx hb hts ck_12.2.1 tyX12 tyX12_ok hown (hts _ (tb_of 1038 (by decide +kernel) (by decide +kernel))) (hts _ (tb_of 1039 (by decide +kernel) (by decide +kernel))) (hts _ (tb_of 65 (by decide +kernel) (by decide +kernel))) hK hP hD hS hA rfl (by decide +kernel) (Nat.le_of_ble_eq_true rfl) (Nat.le_of_ble_eq_true rfl) dL_law_8 (fun q8 H hP hD hS => ?_)
  refine W.widen (k := 56) (n := 1696) (by decide) (by decide) ?_
  refine lv_dup hx hb dL_law_11 rfl ?_
  refine ci_go (wr := wX11 ac q0 u) (W2 := wX12 ac q8) (va_runI (As := []) (rest := [.ref q8]) ⟨hx, hb, hml, hown, hts⟩ (ci_12 l dC dI ac q8 H.size) (cwI 0 hts (tb_in (Y := (cX12_init, RX12, yX12_init, 1, none, 0)) (tb_of 1042 (by decide +kernel) (by decide +kernel))) rfl rfl rfl (hts _ (tb_of 65 (by decide +kernel) (by decide +kernel))) (hts _ (tb_of 1040 (by decide +kernel) (by decide +kernel))) (hts _ (tb_of 1041 (by decide +kernel) (by decide +kernel))) rfl (by decide +kernel) ⟨Nat.le_of_ble_eq_true rfl, Nat.le_of_ble_eq_true rfl⟩) (ci_pre (wr := wX11 ac q0 u) hP hK (fun _ _ => trivial) (fun _ _ _ _ _ => trivial)) rfl rfl hl.1 rfl (lv_room (Nat.le_of_ble_eq_true rfl)) dL_law_12 ⟨Nat.le_of_ble_eq_true rfl, Nat.le_of_ble_eq_true rfl⟩) hP hD hS hA (fun w H locs hP hD hS => ?_)
  refine W.widen (k := 90) (n := 3229) (by decide) (by decide) ?_
  refine lv_astore_n hx hb dL_law_15 rfl hl (by decide) rfl (fun ls hl => ?_)
  refine lv_iconst (v := Int32.ofInt 0) hx hb dL_law_16 rfl ?_
  refine lv_istore_n hx hb dL_law_17 rfl hl (by decide) rfl (fun ls hl => ?_)
  obtain ⟨ad, had⟩ := ex_ad ZL ((wX11 ac q0 u ++ wX12 ac q8 w).map Prod.fst) ZL_nd (by rw [ZL_eq]; rfl)
  rw [ZL_eq] at had
  have had : [ad 0, ad 16, ad 17, ad 32, ad 36, ad 37, ad 38, ad 39, ad 40, ad 41, ad 42, ad 43, ad 44, ad 45, ad 48, ad 52, ad 53, ad 54, ad 55, ad 56, ad 57, ad 58, ad 59, ad 60, ad 61, ad 64, ad 80, ad 82, ad 83, ad 84, ad 96, ad 99, ad 112, ad 115, ad 128, ad 144, ad 146, ad 147, ad 148, ad 160, ad 161, ad 162, ad 163, ad 164, ad 176, ad 192, ad 208, ad 210, ad 211, ad 212, ad 224, ad 240, ad 242, ad 243, ad 244, ad 256, ad 259, ad 260, ad 261, ad 263, ad 264, ad 265, ad 266, ad 267, ad 268, ad 269, ad 270, ad 271, ad 272, ad 274, ad 284, ad 285, ad 286, ad 288, ad 289, ad 290, ad 296, ad 297, ad 299, ad 300, ad 301, ad 302, ad 303, ad 304, ad 307, ad 308, ad 309, ad 310, ad 311, ad 312] = [q0, u.getD 0 0, u.getD 1 0, u.getD 2 0, u.getD 3 0, u.getD 4 0, u.getD 5 0, u.getD 6 0, u.getD 7 0, u.getD 8 0, u.getD 9 0, u.getD 10 0, u.getD 11 0, u.getD 12 0, u.getD 13 0, u.getD 14 0, u.getD 15 0, u.getD 16 0, u.getD 17 0, u.getD 18 0, u.getD 19 0, u.getD 20 0, u.getD 21 0, u.getD 22 0, u.getD 23 0, u.getD 24 0, u.getD 25 0, u.getD 26 0, u.getD 27 0, u.getD 28 0, u.getD 29 0, u.getD 30 0, u.getD 31 0, u.getD 32 0, u.getD 33 0, u.getD 34 0, u.getD 35 0, u.getD 36 0, u.getD 37 0, u.getD 38 0, u.getD 39 0, u.getD 40 0, u.getD 41 0, u.getD 42 0, u.getD 43 0, u.getD 44 0, u.getD 45 0, u.getD 46 0, u.getD 47 0, u.getD 48 0, u.getD 49 0, u.getD 50 0, u.getD 51 0, u.getD 52 0, u.getD 53 0, q8, w.getD 0 0, w.getD 1 0, w.getD 2 0, w.getD 3 0, w.getD 4 0, w.getD 5 0, w.getD 6 0, w.getD 7 0, w.getD 8 0, w.getD 9 0, w.getD 10 0, w.getD 11 0, w.getD 12 0, w.getD 13 0, w.getD 14 0, w.getD 15 0, w.getD 16 0, w.getD 17 0, w.getD 18 0, w.getD 19 0, w.getD 20 0, w.getD 21 0, w.getD 22 0, w.getD 23 0, w.getD 24 0, w.getD 25 0, w.getD 26 0, w.getD 27 0, w.getD 28 0, w.getD 29 0, w.getD 30 0, w.getD 31 0, w.getD 32 0, w.getD 33 0] := had
  simp only [List.cons.injEq, and_true] at had
  obtain ⟨e0, e16, e17, e32, e36, e37, e38, e39, e40, e41, e42, e43, e44, e45, e48, e52, e53, e54, e55, e56, e57, e58, e59, e60, e61, e64, e80, e82, e83, e84, e96, e99, e112, e115, e128, e144, e146, e147, e148, e160, e161, e162, e163, e164, e176, e192, e208, e210, e211, e212, e224, e240, e242, e243, e244, e256, e259, e260, e261, e263, e264, e265, e266, e267, e268, e269, e270, e271, e272, e274, e284, e285, e286, e288, e289, e290, e296, e297, e299, e300, e301, e302, e303, e304, e307, e308, e309, e310, e311, e312⟩ := had
  have hW : wX11 ac q0 u ++ wX12 ac q8 w = zw ad ac mem0 := by
    rw [zw0]
    simp only [e0, e16, e17, e32, e36, e37, e38, e39, e40, e41, e42, e43, e44, e45, e48, e52, e53, e54, e55, e56, e57, e58, e59, e60, e61, e64, e80, e82, e83, e84, e96, e99, e112, e115, e128, e144, e146, e147, e148, e160, e161, e162, e163, e164, e176, e192, e208, e210, e211, e212, e224, e240, e242, e243, e244, e256, e259, e260, e261, e263, e264, e265, e266, e267, e268, e269, e270, e271, e272, e274, e284, e285, e286, e288, e289, e290, e296, e297, e299, e300, e301, e302, e303, e304, e307, e308, e309, e310, e311, e312]
    rfl
  rw [hW] at hP hD
  have hCX : CX ((l, dC, dI, ad, ac, sK, sK), p, e, room_1, s, m, #[Value.ref b], below, meth, c, (fun q : Nat => s.heap.size ≤ q), 90, 3229, lw_Z below #[Value.ref b] s) mL_law := ⟨hx, hb, hr, hlk, hml, hown, hts, hK, zD_of hD, hSX sK, Nat.le_of_ble_eq_true rfl, Nat.le_of_ble_eq_true rfl, Nat.le_of_ble_eq_true rfl, Nat.le_of_ble_eq_true rfl⟩
  have hLX : LX ((l, dC, dI, ad, ac, sK, sK), p, e, room_1, s, m, #[Value.ref b], below, meth, c, (fun q : Nat => s.heap.size ≤ q), 90, 3229, lw_Z below #[Value.ref b] s) L xs := ⟨rfl, rfl, by rw [hsK], by rw [hsK]; exact hX, by rw [hsK]; exact hbl, hL, Nat.le_of_ble_eq_true rfl, Nat.le_of_ble_eq_true rfl, by rw [hsK]⟩
  refine law_loop hLX hL (L + 1) 0 mem0 (Int.le_refl 0) (by omega) (by decide) REL_0 hCX H locs ls hP hS ?_
  refine ⟨hl.1, hl.2.1, fun q hq => hl.2.2 q ?_⟩
  have hq : q ∈ [(0, Value.ref (sK 10)), (1, Value.ref (ad 0)), (2, Value.ref (ad 256)), (3, Value.int (Int32.ofInt 0))] := hq
  rw [hsK, e0, e256] at hq
  have hg : q ∈ [(3, Value.int (Int32.ofInt 0)), (2, Value.ref q8), (1, Value.ref q0), (0, Value.ref b)] := by
    simp only [List.mem_cons, List.not_mem_nil, or_false] at hq ⊢
    rcases hq with h | h | h | h
    · exact Or.inr (Or.inr (Or.inr h))
    · exact Or.inr (Or.inr (Or.inl h))
    · exact Or.inr (Or.inl h)
    · exact Or.inl h
  exact hg

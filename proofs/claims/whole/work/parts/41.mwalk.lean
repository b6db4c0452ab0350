/-- only the reference's walking cells differ -/
def MWf (μ ν : Mem) : Prop := (∀ k, k ≠ 256 → k ≠ 296 → k ≠ 297 → ν k = μ k) ∧ ∀ j, (j < 34 ∨ 38 < j) → ν 256 j = μ 256 j
theorem MWf.mc {μ ν : Mem} (h : MWf μ ν) : MC μ ν := ⟨fun k hk => h.1 k (by omega) (by omega) (by omega), fun k a b => h.1 k (by omega) (by omega) (by omega), fun j hj => h.2 j (by omega)⟩
theorem MWf.rf (μ : Mem) : MWf μ μ := ⟨fun _ _ _ _ => rfl, fun _ _ => rfl⟩
theorem MWf.tr {μ ν ξ : Mem} (h : MWf μ ν) (h2 : MWf ν ξ) : MWf μ ξ := ⟨fun k a b c => (h2.1 k a b c).trans (h.1 k a b c), fun j hj => (h2.2 j hj).trans (h.2 j hj)⟩
def WM (μ ν : Mem) (t a ms : Int) (pre : List Int) (e x : Int) : Prop := MWf μ ν ∧ ν 256 34 = e ∧ ν 256 35 = ms ∧ ν 256 36 = x ∧ ν 256 37 = pre.length ∧ (∀ i, i ≤ pre.length → ν 296 i = (a :: pre).getD i 0) ∧ ∀ i, i < pre.length → ν 297 i = gArm μ 32 ((a :: pre).getD i 0) t
theorem WM_init (μ : Mem) (t a e : Int) : WM μ (mu (mu (mu (mu (mu μ 256 36 a) 256 35 0) 256 37 0) 256 34 e) 296 0 a) t a 0 [] e a := by
  refine ⟨⟨fun k a b c => ?_, fun j hj => ?_⟩, by simp [mu], by simp [mu], by simp [mu], by simp [mu], fun i hi => ?_, fun i hi => by simp at hi⟩
  · rw [mu_ne b, mu_ne a, mu_ne a, mu_ne a, mu_ne a]
  · rw [mu_c (by decide), mu_j (by omega), mu_j (by omega), mu_j (by omega), mu_j (by omega)]
  · have : i = 0 := by simpa using hi
    subst this; simp [mu]
theorem WM_lost {μ ν : Mem} {t a ms x : Int} {pre : List Int} (h : WM μ ν t a ms pre 0 x) : WM μ (mu ν 256 34 2) t a ms pre 2 x := by
  obtain ⟨⟨h1, h1'⟩, h2, h3, h4, h5, h6, h7⟩ := h
  refine ⟨⟨fun k a b c => (mu_ne a).trans (h1 k a b c), fun j hj => by rw [mu_j (by omega)]; exact h1' j hj⟩, by simp [mu], by simp [mu, h3], by simp [mu, h4], by simp [mu, h5], fun i hi => by rw [mu_c (by decide)]; exact h6 i hi, fun i hi => by rw [mu_c (by decide)]; exact h7 i hi⟩
theorem getD_app {l : List Int} {a q : Int} {i : Nat} (h : i ≤ l.length) : (a :: (l ++ [q])).getD i 0 = (a :: l).getD i 0 := by
  rw [List.getD_eq_getElem?_getD, List.getD_eq_getElem?_getD, ← List.cons_append, List.getElem?_append_left (by simp; omega)]
theorem getD_last {l : List Int} {a q : Int} : (a :: (l ++ [q])).getD (l.length + 1) 0 = q := by
  simp [List.getD_eq_getElem?_getD]
theorem WM_step {μ ν : Mem} {t a ms l q e x : Int} {pre : List Int} (h : WM μ ν t a ms pre 0 x) (hx : (a :: pre).getD pre.length 0 = x) :
    WM μ (mu (mu (mu (mu (mu (mu ν 297 ((pre.length : Nat) : Int).toNat (gArm μ 32 x t)) 256 35 (ms + l)) 256 36 q) 256 37 (pre.length + 1)) 296 (((pre.length : Nat) : Int) + 1).toNat q) 256 34 e) t a (ms + l) (pre ++ [q]) e q := by
  obtain ⟨⟨h1, h1'⟩, h2, h3, h4, h5, h6, h7⟩ := h
  have e1 : (((pre.length : Nat) : Int) + 1).toNat = pre.length + 1 := by omega
  have e2 : ((pre.length : Nat) : Int).toNat = pre.length := by omega
  rw [e1, e2]
  refine ⟨⟨fun k a b c => ?_, fun j hj => ?_⟩, by simp [mu], by simp [mu], by simp [mu], by simp [mu], fun i hi => ?_, fun i hi => ?_⟩
  · rw [mu_ne a, mu_ne b, mu_ne a, mu_ne a, mu_ne a, mu_ne c]; exact h1 k a b c
  · rw [mu_j (by omega), mu_c (by decide), mu_j (by omega), mu_j (by omega), mu_j (by omega), mu_c (by decide)]; exact h1' j hj
  · rw [mu_c (by decide), mu_ap]
    rw [List.length_append, List.length_singleton] at hi
    by_cases hi2 : i = pre.length + 1
    · rw [if_pos ⟨rfl, hi2⟩, hi2, getD_last]
    · rw [if_neg (by omega), mu_c (by decide), mu_c (by decide), mu_c (by decide), mu_c (by decide), h6 i (by omega), getD_app (by omega)]
  · rw [mu_c (by decide), mu_c (by decide), mu_c (by decide), mu_c (by decide), mu_c (by decide), mu_ap]
    rw [List.length_append, List.length_singleton] at hi
    by_cases hi2 : i = pre.length
    · rw [if_pos ⟨rfl, hi2⟩, hi2, getD_app (by omega), hx]
    · rw [if_neg (by omega), h7 i (by omega), getD_app (by omega)]
/-- the road that the arms tell, as the reference finds it -/
theorem rT_lost {μ : Mem} (hG : GI μ) {x t r : Int} (hx : 0 ≤ x ∧ x < μ 32 0) (ht : 0 ≤ t ∧ t < μ 32 0) (h : gArm μ 32 x t = -1 ∨ (¬ hb r x = 1 ∧ hb (μ (80 + 3) x.toNat) (gArm μ 32 x t) = 1)) : rT μ 80 x t r = -1 := by
  obtain ⟨hL, hO, hV, hR⟩ := id hG
  obtain ⟨hL0, hL1, hL2, hL3, hL4⟩ := id hL
  have v := hV.2.2.1 x.toNat t.toNat (by omega) (by omega)
  have s := hL3 x.toNat
  have e : gArm μ 32 x t = μ (32 + 13) (x.toNat * 9 + t.toNat) := by unfold gArm; rw [if_pos ⟨hx, ht⟩]; congr 1; omega
  have i1 := In_iff (s := r) (k := x) (by omega)
  unfold rT
  rw [if_pos]
  unfold aT
  rcases h with h | h
  · split
    · rfl
    · exact h
  · by_cases ha : gArm μ 32 x t = -1
    · split
      · rfl
      · exact ha
    · rw [if_pos]
      have i2 := In_iff (s := μ (80 + 3) x.toNat) (k := gArm μ 32 x t) (by omega)
      exact ⟨ha, ⟨hx, i2.mpr h.2⟩, fun q => h.1 (i1.mp q)⟩
theorem rT_go {μ : Mem} (hG : GI μ) {x t r : Int} (hx : 0 ≤ x ∧ x < μ 32 0) (ht : 0 ≤ t ∧ t < μ 32 0) (h : ¬ (gArm μ 32 x t = -1 ∨ (¬ hb r x = 1 ∧ hb (μ (80 + 3) x.toNat) (gArm μ 32 x t) = 1))) :
    rT μ 80 x t r = gRd μ 32 x (sA μ x (gArm μ 32 x t) (if hb r x = 1 then 0 else μ (80 + 2) x.toNat)) ∧ (0 ≤ rT μ 80 x t r ∧ rT μ 80 x t r < μ 32 1) ∧ eP μ x (rT μ 80 x t r) ∧ (0 ≤ gArm μ 32 x t ∧ gArm μ 32 x t < μ (32 + 10) x.toNat) ∧ (0 ≤ gBy μ 32 x (rT μ 80 x t r) ∧ gBy μ 32 x (rT μ 80 x t r) < μ 32 0) := by
  obtain ⟨hL, hO, hV, hR⟩ := id hG
  obtain ⟨hL0, hL1, hL2, hL3, hL4⟩ := id hL
  have v := hV.2.2.1 x.toNat t.toNat (by omega) (by omega)
  have s := hL3 x.toNat
  have e : gArm μ 32 x t = μ (32 + 13) (x.toNat * 9 + t.toNat) := by unfold gArm; rw [if_pos ⟨hx, ht⟩]; congr 1; omega
  have i1 := In_iff (s := r) (k := x) (by omega)
  have ha : ¬ gArm μ 32 x t = -1 := fun q => h (Or.inl q)
  have i2 := In_iff (s := μ (80 + 3) x.toNat) (k := gArm μ 32 x t) (by omega)
  have hb3 := hb_01 r x
  have ea : aT μ 80 x t r = gArm μ 32 x t := by
    unfold aT
    rw [if_neg]
    intro q
    exact h (Or.inr ⟨fun z => q.2.2 (i1.mpr z), i2.mp q.2.1.2⟩)
  have ep : pT μ 80 x = μ (80 + 2) x.toNat := by unfold pT; rw [if_pos hx]
  have er : rT μ 80 x t r = gRd μ 32 x (sA μ x (gArm μ 32 x t) (if hb r x = 1 then 0 else μ (80 + 2) x.toNat)) := by
    unfold rT
    rw [ea, if_neg ha, ep]
    by_cases c : hb r x = 1
    · rw [if_pos c, if_pos (i1.mpr c)]
    · rw [if_neg c, if_neg (fun q => c (i1.mp q))]
  have e0 : gSd μ 32 x = μ (32 + 10) x.toNat := by unfold gSd; rw [if_pos hx]
  have hs : 0 < gSd μ 32 x := by omega
  have eS : ∀ k, sA μ x (gArm μ 32 x t) k = (gArm μ 32 x t + k) % gSd μ 32 x := fun k => by unfold sA; rw [if_pos hs]
  have sd := hV.side hx (i := sA μ x (gArm μ 32 x t) (if hb r x = 1 then 0 else μ (80 + 2) x.toNat)) (by rw [eS]; exact ⟨Int.emod_nonneg _ (by omega), by rw [← e0]; exact Int.emod_lt_of_pos _ hs⟩)
  rw [← er] at sd
  refine ⟨er, sd.2.1, sd.2.2, by omega, ?_⟩
  have o1 := hV.one sd.2.1
  rw [gBy_eq sd.2.1]
  split <;> omega

set_option maxRecDepth 20000 in
theorem l_mwExit {μ ν : Mem} {a t r seen e : Int} {y5 y6 y7 y8 : AV} {R : Int × Int × List Int} {X : ZX} (hX : isM X (fun w m => w = un ∧ WM μ m t a R.2.1 R.2.2 R.1 ((a :: R.2.2).getD R.2.2.length 0))) (he : ν 256 34 = e) (h0 : e = 1 ∨ e = 2 ∨ e = 3) (hw : WM μ ν t a R.2.1 R.2.2 R.1 ((a :: R.2.2).getD R.2.2.length 0)) : V X mX12_walkNow 39 [vr 256, vi a, vi t, vi r, vi seen, y5, y6, y7, y8] [] ν := by
  refine V_aloadn (pc := 39) dX12_walkNow_39 rfl ?_
  refine V_geti (r := 0) (pc := 40) dX12_walkNow_40 fX12_283 zk_256 ?_
  rw [he]
  refine V_if_ne (pc := 43) (tgt := 240) dX12_walkNow_43 (by decide) (by omega) (fun h43 => ?_) (fun h43 => ?_)
  · refine V_vret (x := 0) hX dX12_walkNow_240 rfl ?_
    exact ⟨rfl, hw⟩
  · exfalso; omega

set_option maxRecDepth 20000 in
theorem l_walkNow {μ : Mem} (hG : GI μ) {a t r : Int} (ht : 0 ≤ t ∧ t < μ 32 0) (hr : inR r) {R : Int × Int × List Int} {X : ZX} (hX : isM X (fun w m => w = un ∧ WM μ m t a R.2.1 R.2.2 R.1 ((a :: R.2.2).getD R.2.2.length 0))) : ∀ (n : Nat) (x seen been ms : Int) (pre : List Int) (y5 y6 y7 y8 : AV) (ν : Mem), (iorr seen (ishl 1 x) = been) → (0 ≤ x ∧ x < μ 32 0) → (pre.length + n = 9) → (WM μ ν t a ms pre 0 x) → ((a :: pre).getD pre.length 0 = x) → (¬ (wk μ t r n x been ms).1 = 0) → (((wk μ t r n x been ms).1, (wk μ t r n x been ms).2.1, pre ++ (wk μ t r n x been ms).2.2) = R) → V X mX12_walkNow 39 [vr 256, vi a, vi t, vi r, vi seen, y5, y6, y7, y8] [] ν := by
  intro n
  induction n with
  | zero =>
    intro x seen been ms pre y5 y6 y7 y8 ν hbe hx h2 hw hlast hne hR
    refine V_aloadn (pc := 39) dX12_walkNow_39 rfl ?_
    refine V_geti (r := 0) (pc := 40) dX12_walkNow_40 fX12_283 zk_256 ?_
    rw [hw.2.1]
    refine V_if_ne (pc := 43) (tgt := 240) dX12_walkNow_43 (by decide) (by omega) (fun h43 => ?_) (fun h43 => ?_)
    · exfalso; omega
    · exact absurd rfl hne
  | succ n ih =>
    intro x seen been ms pre y5 y6 y7 y8 ν hbe hx h2 hw hlast hne hR
    have hf := hw.1
    have hmc := hf.mc
    have hg := hmc.ag
    have hGn := GI_mc hmc hG
    obtain ⟨hL, hO, hV, hRM⟩ := id hG
    obtain ⟨hL0, hL1, hL2, hL3, hL4⟩ := id hL
    have hArm : ν 269 (9 * x + t).toNat = gArm μ 32 x t := by rw [hf.1 269 (by decide) (by decide) (by decide), show (9 * x + t).toNat = x.toNat * 9 + t.toNat by omega, (hRM.2.2.2.2.1 x.toNat t.toNat (by omega) (by omega)).1]; unfold gArm; rw [if_pos ⟨hx, ht⟩]; congr 1; omega
    have hFal : ν 271 x.toNat = μ (80 + 3) x.toNat := by rw [hf.1 271 (by decide) (by decide) (by decide)]; exact (hRM.2.2.2.2.2.1 x.toNat (by omega)).2
    have hTrn : ν 270 x.toNat = μ (80 + 2) x.toNat := by rw [hf.1 270 (by decide) (by decide) (by decide)]; exact (hRM.2.2.2.2.2.1 x.toNat (by omega)).1
    have p3 := hO.1 x.toNat
    have aR := gArm_rg hL x t
    have vA := hV.2.2.1 x.toNat t.toNat (by omega) (by omega)
    have eA : gArm μ 32 x t = μ (32 + 13) (x.toNat * 9 + t.toNat) := by unfold gArm; rw [if_pos ⟨hx, ht⟩]; congr 1; omega
    have e32 : ν 32 0 = μ 32 0 := by rw [hg 32 (by decide)]
    have e42 : ν (32 + 10) x.toNat = μ (32 + 10) x.toNat := by rw [hg (32 + 10) (by decide)]
    refine V_aloadn (pc := 39) dX12_walkNow_39 rfl ?_
    refine V_geti (r := 0) (pc := 40) dX12_walkNow_40 fX12_283 zk_256 ?_
    rw [hw.2.1]
    refine V_if_ne (pc := 43) (tgt := 240) dX12_walkNow_43 (by decide) (by omega) (fun h43 => ?_) (fun h43 => ?_)
    · exfalso; omega
    · refine V_aloadn (pc := 46) dX12_walkNow_46 rfl ?_
      refine V_geti (r := 0) (pc := 47) dX12_walkNow_47 fX12_274 zk_256 ?_
      rw [hw.2.2.2.1]
      refine V_istore_5 (pc := 50) dX12_walkNow_50 (by decide) rfl ?_
      refine V_aloadn (pc := 52) dX12_walkNow_52 rfl ?_
      refine V_getr (pc := 53) dX12_walkNow_53 fX12_37 zk_256 zr_256_12 ?_
      refine V_bipush (pc := 56) dX12_walkNow_56 (by decide +kernel) ?_
      refine V_iload (pc := 58) dX12_walkNow_58 rfl ?_
      refine V_imul (pc := 60) dX12_walkNow_60 ?_
      refine V_iloadn (pc := 61) dX12_walkNow_61 rfl ?_
      refine V_iadd (pc := 62) dX12_walkNow_62 ?_
      refine V_iald (pc := 63) dX12_walkNow_63 zk_269 (by omega) (by omega) (by decide) ?_
      rw [hArm]
      refine V_istore_6 (pc := 64) dX12_walkNow_64 (by decide) rfl ?_
      refine V_iloadn (pc := 66) dX12_walkNow_66 rfl ?_
      refine V_iload (pc := 67) dX12_walkNow_67 rfl ?_
      refine V_cs2 (pc := 69) dX12_walkNow_69 kX12_260 (by decide) (Nat.le_of_ble_eq_true rfl) (r_has) rfl ?_
      refine V_istore_7 (pc := 72) dX12_walkNow_72 (by decide) rfl ?_
      refine V_iload (pc := 74) dX12_walkNow_74 rfl ?_
      refine V_if_lt (pc := 76) (tgt := 99) dX12_walkNow_76 (by decide) (by omega) (fun h76 => ?_) (fun h76 => ?_)
      · refine V_aloadn (pc := 99) dX12_walkNow_99 rfl ?_
        refine V_iconst (pc := 100) dX12_walkNow_100 ?_
        refine V_puti (pc := 101) dX12_walkNow_101 fX12_283 zk_256 ?_
        refine V_goto (pc := 104) (tgt := 237) dX12_walkNow_104 (by decide) ?_
        refine V_goto (pc := 237) (tgt := 39) dX12_walkNow_237 (by decide) ?_
        first
          | exact ih _ _ _ _ (pre ++ [gBy μ 32 x (rT μ 80 x t r)]) _ _ _ _ _ rfl q5 (by rw [List.length_append]; simp; omega) (WM_step hw hlast) (by rw [List.length_append]; exact getD_last) (by simp only [wk, if_neg (show ¬ rT μ 80 x t r = -1 by omega), if_neg (show ¬ gBy μ 32 x (rT μ 80 x t r) = t by omega), if_neg (show ¬ In been (gBy μ 32 x (rT μ 80 x t r)) from fun z => by have := (In_iff (s := been) (k := gBy μ 32 x (rT μ 80 x t r)) (by omega)).mp z; omega)] at hne; exact hne) (by rw [← hR]; simp only [wk, if_neg (show ¬ rT μ 80 x t r = -1 by omega), if_neg (show ¬ gBy μ 32 x (rT μ 80 x t r) = t by omega), if_neg (show ¬ In been (gBy μ 32 x (rT μ 80 x t r)) from fun z => by have := (In_iff (s := been) (k := gBy μ 32 x (rT μ 80 x t r)) (by omega)).mp z; omega), List.append_assoc, List.singleton_append])
          | (have hl := rT_lost hG hx ht (r := r) (by omega)
             exact l_mwExit (e := 2) hX mu_h (by decide) (by rw [← hR]; simp only [wk, if_pos hl]; rw [List.append_nil, hlast]; exact WM_lost hw))
          | exact l_mwExit (e := 1) hX mu_h (by decide) (by rw [← hR]; simp only [wk, if_neg (show ¬ rT μ 80 x t r = -1 by omega), if_pos (show gBy μ 32 x (rT μ 80 x t r) = t by omega)]; rw [show (pre ++ [gBy μ 32 x (rT μ 80 x t r)]).length = pre.length + 1 by simp, getD_last]; exact WM_step hw hlast)
          | exact l_mwExit (e := 3) hX mu_h (by decide) (by rw [← hR]; simp only [wk, if_neg (show ¬ rT μ 80 x t r = -1 by omega), if_neg (show ¬ gBy μ 32 x (rT μ 80 x t r) = t by omega), if_pos (show In been (gBy μ 32 x (rT μ 80 x t r)) from (In_iff (s := been) (k := gBy μ 32 x (rT μ 80 x t r)) (by omega)).mpr (by omega))]; rw [show (pre ++ [gBy μ 32 x (rT μ 80 x t r)]).length = pre.length + 1 by simp, getD_last]; exact WM_step hw hlast)
      · refine V_iload (pc := 79) dX12_walkNow_79 rfl ?_
        refine V_ifne_b (pc := 81) (tgt := 107) dX12_walkNow_81 (by decide) (fun h81 => ?_) (fun h81 => ?_)
        · have hc : ¬ (gArm μ 32 x t = -1 ∨ (¬ hb r x = 1 ∧ hb (μ (80 + 3) x.toNat) (gArm μ 32 x t) = 1)) := by omega
          obtain ⟨q1, q2, q3, q4, q5⟩ := rT_go hG hx ht hc
          have hLn : ν 261 (rT μ 80 x t r).toNat = gLn μ 32 (rT μ 80 x t r) := by rw [hf.1 261 (by decide) (by decide) (by decide), (hRM.road q2).2.2, gLn_eq q2]
          refine V_iload (pc := 107) dX12_walkNow_107 rfl ?_
          refine V_iconst (pc := 109) dX12_walkNow_109 ?_
          refine V_iload (pc := 110) dX12_walkNow_110 rfl ?_
          refine V_ishl (pc := 112) dX12_walkNow_112 ?_
          refine V_ior (pc := 113) dX12_walkNow_113 ?_
          rw [hbe]
          refine V_istore_4 (pc := 114) dX12_walkNow_114 (by decide) rfl ?_
          refine V_aloadn (pc := 116) dX12_walkNow_116 rfl ?_
          refine V_iload (pc := 117) dX12_walkNow_117 rfl ?_
          refine V_iload (pc := 119) dX12_walkNow_119 rfl ?_
          refine V_iload (pc := 121) dX12_walkNow_121 rfl ?_
          refine V_ifeq_b (pc := 123) (tgt := 130) dX12_walkNow_123 (by decide) (fun h123 => ?_) (fun h123 => ?_)
          · refine V_aloadn (pc := 130) dX12_walkNow_130 rfl ?_
            refine V_getr (pc := 131) dX12_walkNow_131 fX12_40 zk_256 zr_256_13 ?_
            refine V_iload (pc := 134) dX12_walkNow_134 rfl ?_
            refine V_iald (pc := 136) dX12_walkNow_136 zk_270 (by omega) (by omega) (by decide) ?_
            rw [hTrn]
            refine V_cv3 (pc := 137) dX12_walkNow_137 kX12_256 zk_256 (by decide) (Nat.le_of_ble_eq_true rfl) (r_stands hGn (by rw [e32]; exact hx) (by rw [e42]; omega) (by omega)) rfl ?_
            rw [gRd_ag hg, sA_ag hg]
            first | rw [show gRd μ 32 x (sA μ x (gArm μ 32 x t) 0) = rT μ 80 x t r by rw [q1, if_pos (by omega)]] | rw [show gRd μ 32 x (sA μ x (gArm μ 32 x t) (μ (80 + 2) x.toNat)) = rT μ 80 x t r by rw [q1, if_neg (by omega)]]
            refine V_istore_8 (pc := 140) dX12_walkNow_140 (by decide) rfl ?_
            refine V_aloadn (pc := 142) dX12_walkNow_142 rfl ?_
            refine V_getr (pc := 143) dX12_walkNow_143 fX12_77 zk_256 zr_256_40 ?_
            refine V_aloadn (pc := 146) dX12_walkNow_146 rfl ?_
            refine V_geti (r := 0) (pc := 147) dX12_walkNow_147 fX12_280 zk_256 ?_
            rw [hw.2.2.2.2.1]
            refine V_iload (pc := 150) dX12_walkNow_150 rfl ?_
            refine V_iast (pc := 152) dX12_walkNow_152 zk_297 (by omega) (by omega) (by decide) ?_
            refine V_aloadn (pc := 153) dX12_walkNow_153 rfl ?_
            refine V_dup_r (pc := 154) dX12_walkNow_154 ?_
            refine V_geti (r := 0) (pc := 155) dX12_walkNow_155 fX12_277 zk_256 ?_
            rw [mu_c (by decide : (256 : Nat) ≠ 297)]
            rw [hw.2.2.1]
            refine V_aloadn (pc := 158) dX12_walkNow_158 rfl ?_
            refine V_getr (pc := 159) dX12_walkNow_159 fX12_16 zk_256 zr_256_4 ?_
            refine V_iload (pc := 162) dX12_walkNow_162 rfl ?_
            refine V_iald (pc := 164) dX12_walkNow_164 zk_261 (by omega) (by omega) (by decide) ?_
            rw [mu_c (by decide : (261 : Nat) ≠ 297)]
            rw [hLn]
            refine V_iadd (pc := 165) dX12_walkNow_165 ?_
            refine V_puti (pc := 166) dX12_walkNow_166 fX12_277 zk_256 ?_
            refine V_aloadn (pc := 169) dX12_walkNow_169 rfl ?_
            refine V_aloadn (pc := 170) dX12_walkNow_170 rfl ?_
            refine V_iload (pc := 171) dX12_walkNow_171 rfl ?_
            refine V_iload (pc := 173) dX12_walkNow_173 rfl ?_
            refine V_cv2 (pc := 175) dX12_walkNow_175 kX12_237 zk_256 (by decide) (Nat.le_of_ble_eq_true rfl) (r_otherEnd (GI_mc ((hmc.mk1 (by decide)).mk2 (by decide)) hG) (by rw [show mu (mu ν 297 ((pre.length : Nat) : Int).toNat (gArm μ 32 x t)) 256 35 (ms + gLn μ 32 (rT μ 80 x t r)) 32 1 = μ 32 1 by rw [mu_c (by decide), mu_c (by decide), hg 32 (by decide)]]; exact q2) (by omega)) rfl ?_
            rw [if_pos (show eP (mu (mu ν 297 ((pre.length : Nat) : Int).toNat (gArm μ 32 x t)) 256 35 (ms + gLn μ 32 (rT μ 80 x t r))) x (rT μ 80 x t r) by unfold eP; rw [((hmc.mk1 (by decide)).mk2 (by decide)).1 (32 + 4) (by decide), ((hmc.mk1 (by decide)).mk2 (by decide)).1 (32 + 5) (by decide)]; exact q3), gBy_ag ((hmc.mk1 (by decide)).mk2 (by decide)).ag]
            refine V_puti (pc := 178) dX12_walkNow_178 fX12_274 zk_256 ?_
            refine V_aloadn (pc := 181) dX12_walkNow_181 rfl ?_
            refine V_dup_r (pc := 182) dX12_walkNow_182 ?_
            refine V_geti (r := 0) (pc := 183) dX12_walkNow_183 fX12_280 zk_256 ?_
            rw [mu_j (by decide : (37 : Nat) ≠ 36)]
            rw [mu_j (by decide : (37 : Nat) ≠ 35)]
            rw [mu_c (by decide : (256 : Nat) ≠ 297)]
            rw [hw.2.2.2.2.1]
            refine V_iconst (pc := 186) dX12_walkNow_186 ?_
            refine V_iadd (pc := 187) dX12_walkNow_187 ?_
            refine V_puti (pc := 188) dX12_walkNow_188 fX12_280 zk_256 ?_
            refine V_aloadn (pc := 191) dX12_walkNow_191 rfl ?_
            refine V_getr (pc := 192) dX12_walkNow_192 fX12_74 zk_256 zr_256_39 ?_
            refine V_aloadn (pc := 195) dX12_walkNow_195 rfl ?_
            refine V_geti (r := 0) (pc := 196) dX12_walkNow_196 fX12_280 zk_256 ?_
            rw [mu_h]
            refine V_aloadn (pc := 199) dX12_walkNow_199 rfl ?_
            refine V_geti (r := 0) (pc := 200) dX12_walkNow_200 fX12_274 zk_256 ?_
            rw [mu_j (by decide : (36 : Nat) ≠ 37)]
            rw [mu_h]
            refine V_iast (pc := 203) dX12_walkNow_203 zk_296 (by omega) (by omega) (by decide) ?_
            refine V_aloadn (pc := 204) dX12_walkNow_204 rfl ?_
            refine V_aloadn (pc := 205) dX12_walkNow_205 rfl ?_
            refine V_geti (r := 0) (pc := 206) dX12_walkNow_206 fX12_274 zk_256 ?_
            rw [mu_c (by decide : (256 : Nat) ≠ 296)]
            rw [mu_j (by decide : (36 : Nat) ≠ 37)]
            rw [mu_h]
            refine V_iloadn (pc := 209) dX12_walkNow_209 rfl ?_
            refine V_icmp_ne (pc := 210) (tgt := 217) dX12_walkNow_210 (by decide) (by omega) (by omega) (fun h210 => ?_) (fun h210 => ?_)
            · refine V_iload (pc := 217) dX12_walkNow_217 rfl ?_
              refine V_aloadn (pc := 219) dX12_walkNow_219 rfl ?_
              refine V_geti (r := 0) (pc := 220) dX12_walkNow_220 fX12_274 zk_256 ?_
              rw [mu_c (by decide : (256 : Nat) ≠ 296)]
              rw [mu_j (by decide : (36 : Nat) ≠ 37)]
              rw [mu_h]
              refine V_cs2 (pc := 223) dX12_walkNow_223 kX12_260 (by decide) (Nat.le_of_ble_eq_true rfl) (r_has) rfl ?_
              refine V_ifeq_b (pc := 226) (tgt := 233) dX12_walkNow_226 (by decide) (fun h226 => ?_) (fun h226 => ?_)
              · refine V_iconst (pc := 233) dX12_walkNow_233 ?_
                refine V_puti (pc := 234) dX12_walkNow_234 fX12_283 zk_256 ?_
                refine V_goto (pc := 237) (tgt := 39) dX12_walkNow_237 (by decide) ?_
                first
                  | exact ih _ _ _ _ (pre ++ [gBy μ 32 x (rT μ 80 x t r)]) _ _ _ _ _ rfl q5 (by rw [List.length_append]; simp; omega) (WM_step hw hlast) (by rw [List.length_append]; exact getD_last) (by simp only [wk, if_neg (show ¬ rT μ 80 x t r = -1 by omega), if_neg (show ¬ gBy μ 32 x (rT μ 80 x t r) = t by omega), if_neg (show ¬ In been (gBy μ 32 x (rT μ 80 x t r)) from fun z => by have := (In_iff (s := been) (k := gBy μ 32 x (rT μ 80 x t r)) (by omega)).mp z; omega)] at hne; exact hne) (by rw [← hR]; simp only [wk, if_neg (show ¬ rT μ 80 x t r = -1 by omega), if_neg (show ¬ gBy μ 32 x (rT μ 80 x t r) = t by omega), if_neg (show ¬ In been (gBy μ 32 x (rT μ 80 x t r)) from fun z => by have := (In_iff (s := been) (k := gBy μ 32 x (rT μ 80 x t r)) (by omega)).mp z; omega), List.append_assoc, List.singleton_append])
                  | (have hl := rT_lost hG hx ht (r := r) (by omega)
                     exact l_mwExit (e := 2) hX mu_h (by decide) (by rw [← hR]; simp only [wk, if_pos hl]; rw [List.append_nil, hlast]; exact WM_lost hw))
                  | exact l_mwExit (e := 1) hX mu_h (by decide) (by rw [← hR]; simp only [wk, if_neg (show ¬ rT μ 80 x t r = -1 by omega), if_pos (show gBy μ 32 x (rT μ 80 x t r) = t by omega)]; rw [show (pre ++ [gBy μ 32 x (rT μ 80 x t r)]).length = pre.length + 1 by simp, getD_last]; exact WM_step hw hlast)
                  | exact l_mwExit (e := 3) hX mu_h (by decide) (by rw [← hR]; simp only [wk, if_neg (show ¬ rT μ 80 x t r = -1 by omega), if_neg (show ¬ gBy μ 32 x (rT μ 80 x t r) = t by omega), if_pos (show In been (gBy μ 32 x (rT μ 80 x t r)) from (In_iff (s := been) (k := gBy μ 32 x (rT μ 80 x t r)) (by omega)).mpr (by omega))]; rw [show (pre ++ [gBy μ 32 x (rT μ 80 x t r)]).length = pre.length + 1 by simp, getD_last]; exact WM_step hw hlast)
              · refine V_iconst (pc := 229) dX12_walkNow_229 ?_
                refine V_goto (pc := 230) (tgt := 234) dX12_walkNow_230 (by decide) ?_
                refine V_puti (pc := 234) dX12_walkNow_234 fX12_283 zk_256 ?_
                refine V_goto (pc := 237) (tgt := 39) dX12_walkNow_237 (by decide) ?_
                first
                  | exact ih _ _ _ _ (pre ++ [gBy μ 32 x (rT μ 80 x t r)]) _ _ _ _ _ rfl q5 (by rw [List.length_append]; simp; omega) (WM_step hw hlast) (by rw [List.length_append]; exact getD_last) (by simp only [wk, if_neg (show ¬ rT μ 80 x t r = -1 by omega), if_neg (show ¬ gBy μ 32 x (rT μ 80 x t r) = t by omega), if_neg (show ¬ In been (gBy μ 32 x (rT μ 80 x t r)) from fun z => by have := (In_iff (s := been) (k := gBy μ 32 x (rT μ 80 x t r)) (by omega)).mp z; omega)] at hne; exact hne) (by rw [← hR]; simp only [wk, if_neg (show ¬ rT μ 80 x t r = -1 by omega), if_neg (show ¬ gBy μ 32 x (rT μ 80 x t r) = t by omega), if_neg (show ¬ In been (gBy μ 32 x (rT μ 80 x t r)) from fun z => by have := (In_iff (s := been) (k := gBy μ 32 x (rT μ 80 x t r)) (by omega)).mp z; omega), List.append_assoc, List.singleton_append])
                  | (have hl := rT_lost hG hx ht (r := r) (by omega)
                     exact l_mwExit (e := 2) hX mu_h (by decide) (by rw [← hR]; simp only [wk, if_pos hl]; rw [List.append_nil, hlast]; exact WM_lost hw))
                  | exact l_mwExit (e := 1) hX mu_h (by decide) (by rw [← hR]; simp only [wk, if_neg (show ¬ rT μ 80 x t r = -1 by omega), if_pos (show gBy μ 32 x (rT μ 80 x t r) = t by omega)]; rw [show (pre ++ [gBy μ 32 x (rT μ 80 x t r)]).length = pre.length + 1 by simp, getD_last]; exact WM_step hw hlast)
                  | exact l_mwExit (e := 3) hX mu_h (by decide) (by rw [← hR]; simp only [wk, if_neg (show ¬ rT μ 80 x t r = -1 by omega), if_neg (show ¬ gBy μ 32 x (rT μ 80 x t r) = t by omega), if_pos (show In been (gBy μ 32 x (rT μ 80 x t r)) from (In_iff (s := been) (k := gBy μ 32 x (rT μ 80 x t r)) (by omega)).mpr (by omega))]; rw [show (pre ++ [gBy μ 32 x (rT μ 80 x t r)]).length = pre.length + 1 by simp, getD_last]; exact WM_step hw hlast)
            · refine V_iconst (pc := 213) dX12_walkNow_213 ?_
              refine V_goto (pc := 214) (tgt := 234) dX12_walkNow_214 (by decide) ?_
              refine V_puti (pc := 234) dX12_walkNow_234 fX12_283 zk_256 ?_
              refine V_goto (pc := 237) (tgt := 39) dX12_walkNow_237 (by decide) ?_
              first
                | exact ih _ _ _ _ (pre ++ [gBy μ 32 x (rT μ 80 x t r)]) _ _ _ _ _ rfl q5 (by rw [List.length_append]; simp; omega) (WM_step hw hlast) (by rw [List.length_append]; exact getD_last) (by simp only [wk, if_neg (show ¬ rT μ 80 x t r = -1 by omega), if_neg (show ¬ gBy μ 32 x (rT μ 80 x t r) = t by omega), if_neg (show ¬ In been (gBy μ 32 x (rT μ 80 x t r)) from fun z => by have := (In_iff (s := been) (k := gBy μ 32 x (rT μ 80 x t r)) (by omega)).mp z; omega)] at hne; exact hne) (by rw [← hR]; simp only [wk, if_neg (show ¬ rT μ 80 x t r = -1 by omega), if_neg (show ¬ gBy μ 32 x (rT μ 80 x t r) = t by omega), if_neg (show ¬ In been (gBy μ 32 x (rT μ 80 x t r)) from fun z => by have := (In_iff (s := been) (k := gBy μ 32 x (rT μ 80 x t r)) (by omega)).mp z; omega), List.append_assoc, List.singleton_append])
                | (have hl := rT_lost hG hx ht (r := r) (by omega)
                   exact l_mwExit (e := 2) hX mu_h (by decide) (by rw [← hR]; simp only [wk, if_pos hl]; rw [List.append_nil, hlast]; exact WM_lost hw))
                | exact l_mwExit (e := 1) hX mu_h (by decide) (by rw [← hR]; simp only [wk, if_neg (show ¬ rT μ 80 x t r = -1 by omega), if_pos (show gBy μ 32 x (rT μ 80 x t r) = t by omega)]; rw [show (pre ++ [gBy μ 32 x (rT μ 80 x t r)]).length = pre.length + 1 by simp, getD_last]; exact WM_step hw hlast)
                | exact l_mwExit (e := 3) hX mu_h (by decide) (by rw [← hR]; simp only [wk, if_neg (show ¬ rT μ 80 x t r = -1 by omega), if_neg (show ¬ gBy μ 32 x (rT μ 80 x t r) = t by omega), if_pos (show In been (gBy μ 32 x (rT μ 80 x t r)) from (In_iff (s := been) (k := gBy μ 32 x (rT μ 80 x t r)) (by omega)).mpr (by omega))]; rw [show (pre ++ [gBy μ 32 x (rT μ 80 x t r)]).length = pre.length + 1 by simp, getD_last]; exact WM_step hw hlast)
          · refine V_iconst (pc := 126) dX12_walkNow_126 ?_
            refine V_goto (pc := 127) (tgt := 137) dX12_walkNow_127 (by decide) ?_
            refine V_cv3 (pc := 137) dX12_walkNow_137 kX12_256 zk_256 (by decide) (Nat.le_of_ble_eq_true rfl) (r_stands hGn (by rw [e32]; exact hx) (by rw [e42]; omega) (by omega)) rfl ?_
            rw [gRd_ag hg, sA_ag hg]
            first | rw [show gRd μ 32 x (sA μ x (gArm μ 32 x t) 0) = rT μ 80 x t r by rw [q1, if_pos (by omega)]] | rw [show gRd μ 32 x (sA μ x (gArm μ 32 x t) (μ (80 + 2) x.toNat)) = rT μ 80 x t r by rw [q1, if_neg (by omega)]]
            refine V_istore_8 (pc := 140) dX12_walkNow_140 (by decide) rfl ?_
            refine V_aloadn (pc := 142) dX12_walkNow_142 rfl ?_
            refine V_getr (pc := 143) dX12_walkNow_143 fX12_77 zk_256 zr_256_40 ?_
            refine V_aloadn (pc := 146) dX12_walkNow_146 rfl ?_
            refine V_geti (r := 0) (pc := 147) dX12_walkNow_147 fX12_280 zk_256 ?_
            rw [hw.2.2.2.2.1]
            refine V_iload (pc := 150) dX12_walkNow_150 rfl ?_
            refine V_iast (pc := 152) dX12_walkNow_152 zk_297 (by omega) (by omega) (by decide) ?_
            refine V_aloadn (pc := 153) dX12_walkNow_153 rfl ?_
            refine V_dup_r (pc := 154) dX12_walkNow_154 ?_
            refine V_geti (r := 0) (pc := 155) dX12_walkNow_155 fX12_277 zk_256 ?_
            rw [mu_c (by decide : (256 : Nat) ≠ 297)]
            rw [hw.2.2.1]
            refine V_aloadn (pc := 158) dX12_walkNow_158 rfl ?_
            refine V_getr (pc := 159) dX12_walkNow_159 fX12_16 zk_256 zr_256_4 ?_
            refine V_iload (pc := 162) dX12_walkNow_162 rfl ?_
            refine V_iald (pc := 164) dX12_walkNow_164 zk_261 (by omega) (by omega) (by decide) ?_
            rw [mu_c (by decide : (261 : Nat) ≠ 297)]
            rw [hLn]
            refine V_iadd (pc := 165) dX12_walkNow_165 ?_
            refine V_puti (pc := 166) dX12_walkNow_166 fX12_277 zk_256 ?_
            refine V_aloadn (pc := 169) dX12_walkNow_169 rfl ?_
            refine V_aloadn (pc := 170) dX12_walkNow_170 rfl ?_
            refine V_iload (pc := 171) dX12_walkNow_171 rfl ?_
            refine V_iload (pc := 173) dX12_walkNow_173 rfl ?_
            refine V_cv2 (pc := 175) dX12_walkNow_175 kX12_237 zk_256 (by decide) (Nat.le_of_ble_eq_true rfl) (r_otherEnd (GI_mc ((hmc.mk1 (by decide)).mk2 (by decide)) hG) (by rw [show mu (mu ν 297 ((pre.length : Nat) : Int).toNat (gArm μ 32 x t)) 256 35 (ms + gLn μ 32 (rT μ 80 x t r)) 32 1 = μ 32 1 by rw [mu_c (by decide), mu_c (by decide), hg 32 (by decide)]]; exact q2) (by omega)) rfl ?_
            rw [if_pos (show eP (mu (mu ν 297 ((pre.length : Nat) : Int).toNat (gArm μ 32 x t)) 256 35 (ms + gLn μ 32 (rT μ 80 x t r))) x (rT μ 80 x t r) by unfold eP; rw [((hmc.mk1 (by decide)).mk2 (by decide)).1 (32 + 4) (by decide), ((hmc.mk1 (by decide)).mk2 (by decide)).1 (32 + 5) (by decide)]; exact q3), gBy_ag ((hmc.mk1 (by decide)).mk2 (by decide)).ag]
            refine V_puti (pc := 178) dX12_walkNow_178 fX12_274 zk_256 ?_
            refine V_aloadn (pc := 181) dX12_walkNow_181 rfl ?_
            refine V_dup_r (pc := 182) dX12_walkNow_182 ?_
            refine V_geti (r := 0) (pc := 183) dX12_walkNow_183 fX12_280 zk_256 ?_
            rw [mu_j (by decide : (37 : Nat) ≠ 36)]
            rw [mu_j (by decide : (37 : Nat) ≠ 35)]
            rw [mu_c (by decide : (256 : Nat) ≠ 297)]
            rw [hw.2.2.2.2.1]
            refine V_iconst (pc := 186) dX12_walkNow_186 ?_
            refine V_iadd (pc := 187) dX12_walkNow_187 ?_
            refine V_puti (pc := 188) dX12_walkNow_188 fX12_280 zk_256 ?_
            refine V_aloadn (pc := 191) dX12_walkNow_191 rfl ?_
            refine V_getr (pc := 192) dX12_walkNow_192 fX12_74 zk_256 zr_256_39 ?_
            refine V_aloadn (pc := 195) dX12_walkNow_195 rfl ?_
            refine V_geti (r := 0) (pc := 196) dX12_walkNow_196 fX12_280 zk_256 ?_
            rw [mu_h]
            refine V_aloadn (pc := 199) dX12_walkNow_199 rfl ?_
            refine V_geti (r := 0) (pc := 200) dX12_walkNow_200 fX12_274 zk_256 ?_
            rw [mu_j (by decide : (36 : Nat) ≠ 37)]
            rw [mu_h]
            refine V_iast (pc := 203) dX12_walkNow_203 zk_296 (by omega) (by omega) (by decide) ?_
            refine V_aloadn (pc := 204) dX12_walkNow_204 rfl ?_
            refine V_aloadn (pc := 205) dX12_walkNow_205 rfl ?_
            refine V_geti (r := 0) (pc := 206) dX12_walkNow_206 fX12_274 zk_256 ?_
            rw [mu_c (by decide : (256 : Nat) ≠ 296)]
            rw [mu_j (by decide : (36 : Nat) ≠ 37)]
            rw [mu_h]
            refine V_iloadn (pc := 209) dX12_walkNow_209 rfl ?_
            refine V_icmp_ne (pc := 210) (tgt := 217) dX12_walkNow_210 (by decide) (by omega) (by omega) (fun h210 => ?_) (fun h210 => ?_)
            · refine V_iload (pc := 217) dX12_walkNow_217 rfl ?_
              refine V_aloadn (pc := 219) dX12_walkNow_219 rfl ?_
              refine V_geti (r := 0) (pc := 220) dX12_walkNow_220 fX12_274 zk_256 ?_
              rw [mu_c (by decide : (256 : Nat) ≠ 296)]
              rw [mu_j (by decide : (36 : Nat) ≠ 37)]
              rw [mu_h]
              refine V_cs2 (pc := 223) dX12_walkNow_223 kX12_260 (by decide) (Nat.le_of_ble_eq_true rfl) (r_has) rfl ?_
              refine V_ifeq_b (pc := 226) (tgt := 233) dX12_walkNow_226 (by decide) (fun h226 => ?_) (fun h226 => ?_)
              · refine V_iconst (pc := 233) dX12_walkNow_233 ?_
                refine V_puti (pc := 234) dX12_walkNow_234 fX12_283 zk_256 ?_
                refine V_goto (pc := 237) (tgt := 39) dX12_walkNow_237 (by decide) ?_
                first
                  | exact ih _ _ _ _ (pre ++ [gBy μ 32 x (rT μ 80 x t r)]) _ _ _ _ _ rfl q5 (by rw [List.length_append]; simp; omega) (WM_step hw hlast) (by rw [List.length_append]; exact getD_last) (by simp only [wk, if_neg (show ¬ rT μ 80 x t r = -1 by omega), if_neg (show ¬ gBy μ 32 x (rT μ 80 x t r) = t by omega), if_neg (show ¬ In been (gBy μ 32 x (rT μ 80 x t r)) from fun z => by have := (In_iff (s := been) (k := gBy μ 32 x (rT μ 80 x t r)) (by omega)).mp z; omega)] at hne; exact hne) (by rw [← hR]; simp only [wk, if_neg (show ¬ rT μ 80 x t r = -1 by omega), if_neg (show ¬ gBy μ 32 x (rT μ 80 x t r) = t by omega), if_neg (show ¬ In been (gBy μ 32 x (rT μ 80 x t r)) from fun z => by have := (In_iff (s := been) (k := gBy μ 32 x (rT μ 80 x t r)) (by omega)).mp z; omega), List.append_assoc, List.singleton_append])
                  | (have hl := rT_lost hG hx ht (r := r) (by omega)
                     exact l_mwExit (e := 2) hX mu_h (by decide) (by rw [← hR]; simp only [wk, if_pos hl]; rw [List.append_nil, hlast]; exact WM_lost hw))
                  | exact l_mwExit (e := 1) hX mu_h (by decide) (by rw [← hR]; simp only [wk, if_neg (show ¬ rT μ 80 x t r = -1 by omega), if_pos (show gBy μ 32 x (rT μ 80 x t r) = t by omega)]; rw [show (pre ++ [gBy μ 32 x (rT μ 80 x t r)]).length = pre.length + 1 by simp, getD_last]; exact WM_step hw hlast)
                  | exact l_mwExit (e := 3) hX mu_h (by decide) (by rw [← hR]; simp only [wk, if_neg (show ¬ rT μ 80 x t r = -1 by omega), if_neg (show ¬ gBy μ 32 x (rT μ 80 x t r) = t by omega), if_pos (show In been (gBy μ 32 x (rT μ 80 x t r)) from (In_iff (s := been) (k := gBy μ 32 x (rT μ 80 x t r)) (by omega)).mpr (by omega))]; rw [show (pre ++ [gBy μ 32 x (rT μ 80 x t r)]).length = pre.length + 1 by simp, getD_last]; exact WM_step hw hlast)
              · refine V_iconst (pc := 229) dX12_walkNow_229 ?_
                refine V_goto (pc := 230) (tgt := 234) dX12_walkNow_230 (by decide) ?_
                refine V_puti (pc := 234) dX12_walkNow_234 fX12_283 zk_256 ?_
                refine V_goto (pc := 237) (tgt := 39) dX12_walkNow_237 (by decide) ?_
                first
                  | exact ih _ _ _ _ (pre ++ [gBy μ 32 x (rT μ 80 x t r)]) _ _ _ _ _ rfl q5 (by rw [List.length_append]; simp; omega) (WM_step hw hlast) (by rw [List.length_append]; exact getD_last) (by simp only [wk, if_neg (show ¬ rT μ 80 x t r = -1 by omega), if_neg (show ¬ gBy μ 32 x (rT μ 80 x t r) = t by omega), if_neg (show ¬ In been (gBy μ 32 x (rT μ 80 x t r)) from fun z => by have := (In_iff (s := been) (k := gBy μ 32 x (rT μ 80 x t r)) (by omega)).mp z; omega)] at hne; exact hne) (by rw [← hR]; simp only [wk, if_neg (show ¬ rT μ 80 x t r = -1 by omega), if_neg (show ¬ gBy μ 32 x (rT μ 80 x t r) = t by omega), if_neg (show ¬ In been (gBy μ 32 x (rT μ 80 x t r)) from fun z => by have := (In_iff (s := been) (k := gBy μ 32 x (rT μ 80 x t r)) (by omega)).mp z; omega), List.append_assoc, List.singleton_append])
                  | (have hl := rT_lost hG hx ht (r := r) (by omega)
                     exact l_mwExit (e := 2) hX mu_h (by decide) (by rw [← hR]; simp only [wk, if_pos hl]; rw [List.append_nil, hlast]; exact WM_lost hw))
                  | exact l_mwExit (e := 1) hX mu_h (by decide) (by rw [← hR]; simp only [wk, if_neg (show ¬ rT μ 80 x t r = -1 by omega), if_pos (show gBy μ 32 x (rT μ 80 x t r) = t by omega)]; rw [show (pre ++ [gBy μ 32 x (rT μ 80 x t r)]).length = pre.length + 1 by simp, getD_last]; exact WM_step hw hlast)
                  | exact l_mwExit (e := 3) hX mu_h (by decide) (by rw [← hR]; simp only [wk, if_neg (show ¬ rT μ 80 x t r = -1 by omega), if_neg (show ¬ gBy μ 32 x (rT μ 80 x t r) = t by omega), if_pos (show In been (gBy μ 32 x (rT μ 80 x t r)) from (In_iff (s := been) (k := gBy μ 32 x (rT μ 80 x t r)) (by omega)).mpr (by omega))]; rw [show (pre ++ [gBy μ 32 x (rT μ 80 x t r)]).length = pre.length + 1 by simp, getD_last]; exact WM_step hw hlast)
            · refine V_iconst (pc := 213) dX12_walkNow_213 ?_
              refine V_goto (pc := 214) (tgt := 234) dX12_walkNow_214 (by decide) ?_
              refine V_puti (pc := 234) dX12_walkNow_234 fX12_283 zk_256 ?_
              refine V_goto (pc := 237) (tgt := 39) dX12_walkNow_237 (by decide) ?_
              first
                | exact ih _ _ _ _ (pre ++ [gBy μ 32 x (rT μ 80 x t r)]) _ _ _ _ _ rfl q5 (by rw [List.length_append]; simp; omega) (WM_step hw hlast) (by rw [List.length_append]; exact getD_last) (by simp only [wk, if_neg (show ¬ rT μ 80 x t r = -1 by omega), if_neg (show ¬ gBy μ 32 x (rT μ 80 x t r) = t by omega), if_neg (show ¬ In been (gBy μ 32 x (rT μ 80 x t r)) from fun z => by have := (In_iff (s := been) (k := gBy μ 32 x (rT μ 80 x t r)) (by omega)).mp z; omega)] at hne; exact hne) (by rw [← hR]; simp only [wk, if_neg (show ¬ rT μ 80 x t r = -1 by omega), if_neg (show ¬ gBy μ 32 x (rT μ 80 x t r) = t by omega), if_neg (show ¬ In been (gBy μ 32 x (rT μ 80 x t r)) from fun z => by have := (In_iff (s := been) (k := gBy μ 32 x (rT μ 80 x t r)) (by omega)).mp z; omega), List.append_assoc, List.singleton_append])
                | (have hl := rT_lost hG hx ht (r := r) (by omega)
                   exact l_mwExit (e := 2) hX mu_h (by decide) (by rw [← hR]; simp only [wk, if_pos hl]; rw [List.append_nil, hlast]; exact WM_lost hw))
                | exact l_mwExit (e := 1) hX mu_h (by decide) (by rw [← hR]; simp only [wk, if_neg (show ¬ rT μ 80 x t r = -1 by omega), if_pos (show gBy μ 32 x (rT μ 80 x t r) = t by omega)]; rw [show (pre ++ [gBy μ 32 x (rT μ 80 x t r)]).length = pre.length + 1 by simp, getD_last]; exact WM_step hw hlast)
                | exact l_mwExit (e := 3) hX mu_h (by decide) (by rw [← hR]; simp only [wk, if_neg (show ¬ rT μ 80 x t r = -1 by omega), if_neg (show ¬ gBy μ 32 x (rT μ 80 x t r) = t by omega), if_pos (show In been (gBy μ 32 x (rT μ 80 x t r)) from (In_iff (s := been) (k := gBy μ 32 x (rT μ 80 x t r)) (by omega)).mpr (by omega))]; rw [show (pre ++ [gBy μ 32 x (rT μ 80 x t r)]).length = pre.length + 1 by simp, getD_last]; exact WM_step hw hlast)
        · refine V_aloadn (pc := 84) dX12_walkNow_84 rfl ?_
          refine V_getr (pc := 85) dX12_walkNow_85 fX12_43 zk_256 zr_256_14 ?_
          refine V_iload (pc := 88) dX12_walkNow_88 rfl ?_
          refine V_iald (pc := 90) dX12_walkNow_90 zk_271 (by omega) (by omega) (by decide) ?_
          rw [hFal]
          refine V_iload (pc := 91) dX12_walkNow_91 rfl ?_
          refine V_cs2 (pc := 93) dX12_walkNow_93 kX12_260 (by decide) (Nat.le_of_ble_eq_true rfl) (r_has) rfl ?_
          refine V_ifeq_b (pc := 96) (tgt := 107) dX12_walkNow_96 (by decide) (fun h96 => ?_) (fun h96 => ?_)
          · have hc : ¬ (gArm μ 32 x t = -1 ∨ (¬ hb r x = 1 ∧ hb (μ (80 + 3) x.toNat) (gArm μ 32 x t) = 1)) := by omega
            obtain ⟨q1, q2, q3, q4, q5⟩ := rT_go hG hx ht hc
            have hLn : ν 261 (rT μ 80 x t r).toNat = gLn μ 32 (rT μ 80 x t r) := by rw [hf.1 261 (by decide) (by decide) (by decide), (hRM.road q2).2.2, gLn_eq q2]
            refine V_iload (pc := 107) dX12_walkNow_107 rfl ?_
            refine V_iconst (pc := 109) dX12_walkNow_109 ?_
            refine V_iload (pc := 110) dX12_walkNow_110 rfl ?_
            refine V_ishl (pc := 112) dX12_walkNow_112 ?_
            refine V_ior (pc := 113) dX12_walkNow_113 ?_
            rw [hbe]
            refine V_istore_4 (pc := 114) dX12_walkNow_114 (by decide) rfl ?_
            refine V_aloadn (pc := 116) dX12_walkNow_116 rfl ?_
            refine V_iload (pc := 117) dX12_walkNow_117 rfl ?_
            refine V_iload (pc := 119) dX12_walkNow_119 rfl ?_
            refine V_iload (pc := 121) dX12_walkNow_121 rfl ?_
            refine V_ifeq_b (pc := 123) (tgt := 130) dX12_walkNow_123 (by decide) (fun h123 => ?_) (fun h123 => ?_)
            · refine V_aloadn (pc := 130) dX12_walkNow_130 rfl ?_
              refine V_getr (pc := 131) dX12_walkNow_131 fX12_40 zk_256 zr_256_13 ?_
              refine V_iload (pc := 134) dX12_walkNow_134 rfl ?_
              refine V_iald (pc := 136) dX12_walkNow_136 zk_270 (by omega) (by omega) (by decide) ?_
              rw [hTrn]
              refine V_cv3 (pc := 137) dX12_walkNow_137 kX12_256 zk_256 (by decide) (Nat.le_of_ble_eq_true rfl) (r_stands hGn (by rw [e32]; exact hx) (by rw [e42]; omega) (by omega)) rfl ?_
              rw [gRd_ag hg, sA_ag hg]
              first | rw [show gRd μ 32 x (sA μ x (gArm μ 32 x t) 0) = rT μ 80 x t r by rw [q1, if_pos (by omega)]] | rw [show gRd μ 32 x (sA μ x (gArm μ 32 x t) (μ (80 + 2) x.toNat)) = rT μ 80 x t r by rw [q1, if_neg (by omega)]]
              refine V_istore_8 (pc := 140) dX12_walkNow_140 (by decide) rfl ?_
              refine V_aloadn (pc := 142) dX12_walkNow_142 rfl ?_
              refine V_getr (pc := 143) dX12_walkNow_143 fX12_77 zk_256 zr_256_40 ?_
              refine V_aloadn (pc := 146) dX12_walkNow_146 rfl ?_
              refine V_geti (r := 0) (pc := 147) dX12_walkNow_147 fX12_280 zk_256 ?_
              rw [hw.2.2.2.2.1]
              refine V_iload (pc := 150) dX12_walkNow_150 rfl ?_
              refine V_iast (pc := 152) dX12_walkNow_152 zk_297 (by omega) (by omega) (by decide) ?_
              refine V_aloadn (pc := 153) dX12_walkNow_153 rfl ?_
              refine V_dup_r (pc := 154) dX12_walkNow_154 ?_
              refine V_geti (r := 0) (pc := 155) dX12_walkNow_155 fX12_277 zk_256 ?_
              rw [mu_c (by decide : (256 : Nat) ≠ 297)]
              rw [hw.2.2.1]
              refine V_aloadn (pc := 158) dX12_walkNow_158 rfl ?_
              refine V_getr (pc := 159) dX12_walkNow_159 fX12_16 zk_256 zr_256_4 ?_
              refine V_iload (pc := 162) dX12_walkNow_162 rfl ?_
              refine V_iald (pc := 164) dX12_walkNow_164 zk_261 (by omega) (by omega) (by decide) ?_
              rw [mu_c (by decide : (261 : Nat) ≠ 297)]
              rw [hLn]
              refine V_iadd (pc := 165) dX12_walkNow_165 ?_
              refine V_puti (pc := 166) dX12_walkNow_166 fX12_277 zk_256 ?_
              refine V_aloadn (pc := 169) dX12_walkNow_169 rfl ?_
              refine V_aloadn (pc := 170) dX12_walkNow_170 rfl ?_
              refine V_iload (pc := 171) dX12_walkNow_171 rfl ?_
              refine V_iload (pc := 173) dX12_walkNow_173 rfl ?_
              refine V_cv2 (pc := 175) dX12_walkNow_175 kX12_237 zk_256 (by decide) (Nat.le_of_ble_eq_true rfl) (r_otherEnd (GI_mc ((hmc.mk1 (by decide)).mk2 (by decide)) hG) (by rw [show mu (mu ν 297 ((pre.length : Nat) : Int).toNat (gArm μ 32 x t)) 256 35 (ms + gLn μ 32 (rT μ 80 x t r)) 32 1 = μ 32 1 by rw [mu_c (by decide), mu_c (by decide), hg 32 (by decide)]]; exact q2) (by omega)) rfl ?_
              rw [if_pos (show eP (mu (mu ν 297 ((pre.length : Nat) : Int).toNat (gArm μ 32 x t)) 256 35 (ms + gLn μ 32 (rT μ 80 x t r))) x (rT μ 80 x t r) by unfold eP; rw [((hmc.mk1 (by decide)).mk2 (by decide)).1 (32 + 4) (by decide), ((hmc.mk1 (by decide)).mk2 (by decide)).1 (32 + 5) (by decide)]; exact q3), gBy_ag ((hmc.mk1 (by decide)).mk2 (by decide)).ag]
              refine V_puti (pc := 178) dX12_walkNow_178 fX12_274 zk_256 ?_
              refine V_aloadn (pc := 181) dX12_walkNow_181 rfl ?_
              refine V_dup_r (pc := 182) dX12_walkNow_182 ?_
              refine V_geti (r := 0) (pc := 183) dX12_walkNow_183 fX12_280 zk_256 ?_
              rw [mu_j (by decide : (37 : Nat) ≠ 36)]
              rw [mu_j (by decide : (37 : Nat) ≠ 35)]
              rw [mu_c (by decide : (256 : Nat) ≠ 297)]
              rw [hw.2.2.2.2.1]
              refine V_iconst (pc := 186) dX12_walkNow_186 ?_
              refine V_iadd (pc := 187) dX12_walkNow_187 ?_
              refine V_puti (pc := 188) dX12_walkNow_188 fX12_280 zk_256 ?_
              refine V_aloadn (pc := 191) dX12_walkNow_191 rfl ?_
              refine V_getr (pc := 192) dX12_walkNow_192 fX12_74 zk_256 zr_256_39 ?_
              refine V_aloadn (pc := 195) dX12_walkNow_195 rfl ?_
              refine V_geti (r := 0) (pc := 196) dX12_walkNow_196 fX12_280 zk_256 ?_
              rw [mu_h]
              refine V_aloadn (pc := 199) dX12_walkNow_199 rfl ?_
              refine V_geti (r := 0) (pc := 200) dX12_walkNow_200 fX12_274 zk_256 ?_
              rw [mu_j (by decide : (36 : Nat) ≠ 37)]
              rw [mu_h]
              refine V_iast (pc := 203) dX12_walkNow_203 zk_296 (by omega) (by omega) (by decide) ?_
              refine V_aloadn (pc := 204) dX12_walkNow_204 rfl ?_
              refine V_aloadn (pc := 205) dX12_walkNow_205 rfl ?_
              refine V_geti (r := 0) (pc := 206) dX12_walkNow_206 fX12_274 zk_256 ?_
              rw [mu_c (by decide : (256 : Nat) ≠ 296)]
              rw [mu_j (by decide : (36 : Nat) ≠ 37)]
              rw [mu_h]
              refine V_iloadn (pc := 209) dX12_walkNow_209 rfl ?_
              refine V_icmp_ne (pc := 210) (tgt := 217) dX12_walkNow_210 (by decide) (by omega) (by omega) (fun h210 => ?_) (fun h210 => ?_)
              · refine V_iload (pc := 217) dX12_walkNow_217 rfl ?_
                refine V_aloadn (pc := 219) dX12_walkNow_219 rfl ?_
                refine V_geti (r := 0) (pc := 220) dX12_walkNow_220 fX12_274 zk_256 ?_
                rw [mu_c (by decide : (256 : Nat) ≠ 296)]
                rw [mu_j (by decide : (36 : Nat) ≠ 37)]
                rw [mu_h]
                refine V_cs2 (pc := 223) dX12_walkNow_223 kX12_260 (by decide) (Nat.le_of_ble_eq_true rfl) (r_has) rfl ?_
                refine V_ifeq_b (pc := 226) (tgt := 233) dX12_walkNow_226 (by decide) (fun h226 => ?_) (fun h226 => ?_)
                · refine V_iconst (pc := 233) dX12_walkNow_233 ?_
                  refine V_puti (pc := 234) dX12_walkNow_234 fX12_283 zk_256 ?_
                  refine V_goto (pc := 237) (tgt := 39) dX12_walkNow_237 (by decide) ?_
                  first
                    | exact ih _ _ _ _ (pre ++ [gBy μ 32 x (rT μ 80 x t r)]) _ _ _ _ _ rfl q5 (by rw [List.length_append]; simp; omega) (WM_step hw hlast) (by rw [List.length_append]; exact getD_last) (by simp only [wk, if_neg (show ¬ rT μ 80 x t r = -1 by omega), if_neg (show ¬ gBy μ 32 x (rT μ 80 x t r) = t by omega), if_neg (show ¬ In been (gBy μ 32 x (rT μ 80 x t r)) from fun z => by have := (In_iff (s := been) (k := gBy μ 32 x (rT μ 80 x t r)) (by omega)).mp z; omega)] at hne; exact hne) (by rw [← hR]; simp only [wk, if_neg (show ¬ rT μ 80 x t r = -1 by omega), if_neg (show ¬ gBy μ 32 x (rT μ 80 x t r) = t by omega), if_neg (show ¬ In been (gBy μ 32 x (rT μ 80 x t r)) from fun z => by have := (In_iff (s := been) (k := gBy μ 32 x (rT μ 80 x t r)) (by omega)).mp z; omega), List.append_assoc, List.singleton_append])
                    | (have hl := rT_lost hG hx ht (r := r) (by omega)
                       exact l_mwExit (e := 2) hX mu_h (by decide) (by rw [← hR]; simp only [wk, if_pos hl]; rw [List.append_nil, hlast]; exact WM_lost hw))
                    | exact l_mwExit (e := 1) hX mu_h (by decide) (by rw [← hR]; simp only [wk, if_neg (show ¬ rT μ 80 x t r = -1 by omega), if_pos (show gBy μ 32 x (rT μ 80 x t r) = t by omega)]; rw [show (pre ++ [gBy μ 32 x (rT μ 80 x t r)]).length = pre.length + 1 by simp, getD_last]; exact WM_step hw hlast)
                    | exact l_mwExit (e := 3) hX mu_h (by decide) (by rw [← hR]; simp only [wk, if_neg (show ¬ rT μ 80 x t r = -1 by omega), if_neg (show ¬ gBy μ 32 x (rT μ 80 x t r) = t by omega), if_pos (show In been (gBy μ 32 x (rT μ 80 x t r)) from (In_iff (s := been) (k := gBy μ 32 x (rT μ 80 x t r)) (by omega)).mpr (by omega))]; rw [show (pre ++ [gBy μ 32 x (rT μ 80 x t r)]).length = pre.length + 1 by simp, getD_last]; exact WM_step hw hlast)
                · refine V_iconst (pc := 229) dX12_walkNow_229 ?_
                  refine V_goto (pc := 230) (tgt := 234) dX12_walkNow_230 (by decide) ?_
                  refine V_puti (pc := 234) dX12_walkNow_234 fX12_283 zk_256 ?_
                  refine V_goto (pc := 237) (tgt := 39) dX12_walkNow_237 (by decide) ?_
                  first
                    | exact ih _ _ _ _ (pre ++ [gBy μ 32 x (rT μ 80 x t r)]) _ _ _ _ _ rfl q5 (by rw [List.length_append]; simp; omega) (WM_step hw hlast) (by rw [List.length_append]; exact getD_last) (by simp only [wk, if_neg (show ¬ rT μ 80 x t r = -1 by omega), if_neg (show ¬ gBy μ 32 x (rT μ 80 x t r) = t by omega), if_neg (show ¬ In been (gBy μ 32 x (rT μ 80 x t r)) from fun z => by have := (In_iff (s := been) (k := gBy μ 32 x (rT μ 80 x t r)) (by omega)).mp z; omega)] at hne; exact hne) (by rw [← hR]; simp only [wk, if_neg (show ¬ rT μ 80 x t r = -1 by omega), if_neg (show ¬ gBy μ 32 x (rT μ 80 x t r) = t by omega), if_neg (show ¬ In been (gBy μ 32 x (rT μ 80 x t r)) from fun z => by have := (In_iff (s := been) (k := gBy μ 32 x (rT μ 80 x t r)) (by omega)).mp z; omega), List.append_assoc, List.singleton_append])
                    | (have hl := rT_lost hG hx ht (r := r) (by omega)
                       exact l_mwExit (e := 2) hX mu_h (by decide) (by rw [← hR]; simp only [wk, if_pos hl]; rw [List.append_nil, hlast]; exact WM_lost hw))
                    | exact l_mwExit (e := 1) hX mu_h (by decide) (by rw [← hR]; simp only [wk, if_neg (show ¬ rT μ 80 x t r = -1 by omega), if_pos (show gBy μ 32 x (rT μ 80 x t r) = t by omega)]; rw [show (pre ++ [gBy μ 32 x (rT μ 80 x t r)]).length = pre.length + 1 by simp, getD_last]; exact WM_step hw hlast)
                    | exact l_mwExit (e := 3) hX mu_h (by decide) (by rw [← hR]; simp only [wk, if_neg (show ¬ rT μ 80 x t r = -1 by omega), if_neg (show ¬ gBy μ 32 x (rT μ 80 x t r) = t by omega), if_pos (show In been (gBy μ 32 x (rT μ 80 x t r)) from (In_iff (s := been) (k := gBy μ 32 x (rT μ 80 x t r)) (by omega)).mpr (by omega))]; rw [show (pre ++ [gBy μ 32 x (rT μ 80 x t r)]).length = pre.length + 1 by simp, getD_last]; exact WM_step hw hlast)
              · refine V_iconst (pc := 213) dX12_walkNow_213 ?_
                refine V_goto (pc := 214) (tgt := 234) dX12_walkNow_214 (by decide) ?_
                refine V_puti (pc := 234) dX12_walkNow_234 fX12_283 zk_256 ?_
                refine V_goto (pc := 237) (tgt := 39) dX12_walkNow_237 (by decide) ?_
                first
                  | exact ih _ _ _ _ (pre ++ [gBy μ 32 x (rT μ 80 x t r)]) _ _ _ _ _ rfl q5 (by rw [List.length_append]; simp; omega) (WM_step hw hlast) (by rw [List.length_append]; exact getD_last) (by simp only [wk, if_neg (show ¬ rT μ 80 x t r = -1 by omega), if_neg (show ¬ gBy μ 32 x (rT μ 80 x t r) = t by omega), if_neg (show ¬ In been (gBy μ 32 x (rT μ 80 x t r)) from fun z => by have := (In_iff (s := been) (k := gBy μ 32 x (rT μ 80 x t r)) (by omega)).mp z; omega)] at hne; exact hne) (by rw [← hR]; simp only [wk, if_neg (show ¬ rT μ 80 x t r = -1 by omega), if_neg (show ¬ gBy μ 32 x (rT μ 80 x t r) = t by omega), if_neg (show ¬ In been (gBy μ 32 x (rT μ 80 x t r)) from fun z => by have := (In_iff (s := been) (k := gBy μ 32 x (rT μ 80 x t r)) (by omega)).mp z; omega), List.append_assoc, List.singleton_append])
                  | (have hl := rT_lost hG hx ht (r := r) (by omega)
                     exact l_mwExit (e := 2) hX mu_h (by decide) (by rw [← hR]; simp only [wk, if_pos hl]; rw [List.append_nil, hlast]; exact WM_lost hw))
                  | exact l_mwExit (e := 1) hX mu_h (by decide) (by rw [← hR]; simp only [wk, if_neg (show ¬ rT μ 80 x t r = -1 by omega), if_pos (show gBy μ 32 x (rT μ 80 x t r) = t by omega)]; rw [show (pre ++ [gBy μ 32 x (rT μ 80 x t r)]).length = pre.length + 1 by simp, getD_last]; exact WM_step hw hlast)
                  | exact l_mwExit (e := 3) hX mu_h (by decide) (by rw [← hR]; simp only [wk, if_neg (show ¬ rT μ 80 x t r = -1 by omega), if_neg (show ¬ gBy μ 32 x (rT μ 80 x t r) = t by omega), if_pos (show In been (gBy μ 32 x (rT μ 80 x t r)) from (In_iff (s := been) (k := gBy μ 32 x (rT μ 80 x t r)) (by omega)).mpr (by omega))]; rw [show (pre ++ [gBy μ 32 x (rT μ 80 x t r)]).length = pre.length + 1 by simp, getD_last]; exact WM_step hw hlast)
            · refine V_iconst (pc := 126) dX12_walkNow_126 ?_
              refine V_goto (pc := 127) (tgt := 137) dX12_walkNow_127 (by decide) ?_
              refine V_cv3 (pc := 137) dX12_walkNow_137 kX12_256 zk_256 (by decide) (Nat.le_of_ble_eq_true rfl) (r_stands hGn (by rw [e32]; exact hx) (by rw [e42]; omega) (by omega)) rfl ?_
              rw [gRd_ag hg, sA_ag hg]
              first | rw [show gRd μ 32 x (sA μ x (gArm μ 32 x t) 0) = rT μ 80 x t r by rw [q1, if_pos (by omega)]] | rw [show gRd μ 32 x (sA μ x (gArm μ 32 x t) (μ (80 + 2) x.toNat)) = rT μ 80 x t r by rw [q1, if_neg (by omega)]]
              refine V_istore_8 (pc := 140) dX12_walkNow_140 (by decide) rfl ?_
              refine V_aloadn (pc := 142) dX12_walkNow_142 rfl ?_
              refine V_getr (pc := 143) dX12_walkNow_143 fX12_77 zk_256 zr_256_40 ?_
              refine V_aloadn (pc := 146) dX12_walkNow_146 rfl ?_
              refine V_geti (r := 0) (pc := 147) dX12_walkNow_147 fX12_280 zk_256 ?_
              rw [hw.2.2.2.2.1]
              refine V_iload (pc := 150) dX12_walkNow_150 rfl ?_
              refine V_iast (pc := 152) dX12_walkNow_152 zk_297 (by omega) (by omega) (by decide) ?_
              refine V_aloadn (pc := 153) dX12_walkNow_153 rfl ?_
              refine V_dup_r (pc := 154) dX12_walkNow_154 ?_
              refine V_geti (r := 0) (pc := 155) dX12_walkNow_155 fX12_277 zk_256 ?_
              rw [mu_c (by decide : (256 : Nat) ≠ 297)]
              rw [hw.2.2.1]
              refine V_aloadn (pc := 158) dX12_walkNow_158 rfl ?_
              refine V_getr (pc := 159) dX12_walkNow_159 fX12_16 zk_256 zr_256_4 ?_
              refine V_iload (pc := 162) dX12_walkNow_162 rfl ?_
              refine V_iald (pc := 164) dX12_walkNow_164 zk_261 (by omega) (by omega) (by decide) ?_
              rw [mu_c (by decide : (261 : Nat) ≠ 297)]
              rw [hLn]
              refine V_iadd (pc := 165) dX12_walkNow_165 ?_
              refine V_puti (pc := 166) dX12_walkNow_166 fX12_277 zk_256 ?_
              refine V_aloadn (pc := 169) dX12_walkNow_169 rfl ?_
              refine V_aloadn (pc := 170) dX12_walkNow_170 rfl ?_
              refine V_iload (pc := 171) dX12_walkNow_171 rfl ?_
              refine V_iload (pc := 173) dX12_walkNow_173 rfl ?_
              refine V_cv2 (pc := 175) dX12_walkNow_175 kX12_237 zk_256 (by decide) (Nat.le_of_ble_eq_true rfl) (r_otherEnd (GI_mc ((hmc.mk1 (by decide)).mk2 (by decide)) hG) (by rw [show mu (mu ν 297 ((pre.length : Nat) : Int).toNat (gArm μ 32 x t)) 256 35 (ms + gLn μ 32 (rT μ 80 x t r)) 32 1 = μ 32 1 by rw [mu_c (by decide), mu_c (by decide), hg 32 (by decide)]]; exact q2) (by omega)) rfl ?_
              rw [if_pos (show eP (mu (mu ν 297 ((pre.length : Nat) : Int).toNat (gArm μ 32 x t)) 256 35 (ms + gLn μ 32 (rT μ 80 x t r))) x (rT μ 80 x t r) by unfold eP; rw [((hmc.mk1 (by decide)).mk2 (by decide)).1 (32 + 4) (by decide), ((hmc.mk1 (by decide)).mk2 (by decide)).1 (32 + 5) (by decide)]; exact q3), gBy_ag ((hmc.mk1 (by decide)).mk2 (by decide)).ag]
              refine V_puti (pc := 178) dX12_walkNow_178 fX12_274 zk_256 ?_
              refine V_aloadn (pc := 181) dX12_walkNow_181 rfl ?_
              refine V_dup_r (pc := 182) dX12_walkNow_182 ?_
              refine V_geti (r := 0) (pc := 183) dX12_walkNow_183 fX12_280 zk_256 ?_
              rw [mu_j (by decide : (37 : Nat) ≠ 36)]
              rw [mu_j (by decide : (37 : Nat) ≠ 35)]
              rw [mu_c (by decide : (256 : Nat) ≠ 297)]
              rw [hw.2.2.2.2.1]
              refine V_iconst (pc := 186) dX12_walkNow_186 ?_
              refine V_iadd (pc := 187) dX12_walkNow_187 ?_
              refine V_puti (pc := 188) dX12_walkNow_188 fX12_280 zk_256 ?_
              refine V_aloadn (pc := 191) dX12_walkNow_191 rfl ?_
              refine V_getr (pc := 192) dX12_walkNow_192 fX12_74 zk_256 zr_256_39 ?_
              refine V_aloadn (pc := 195) dX12_walkNow_195 rfl ?_
              refine V_geti (r := 0) (pc := 196) dX12_walkNow_196 fX12_280 zk_256 ?_
              rw [mu_h]
              refine V_aloadn (pc := 199) dX12_walkNow_199 rfl ?_
              refine V_geti (r := 0) (pc := 200) dX12_walkNow_200 fX12_274 zk_256 ?_
              rw [mu_j (by decide : (36 : Nat) ≠ 37)]
              rw [mu_h]
              refine V_iast (pc := 203) dX12_walkNow_203 zk_296 (by omega) (by omega) (by decide) ?_
              refine V_aloadn (pc := 204) dX12_walkNow_204 rfl ?_
              refine V_aloadn (pc := 205) dX12_walkNow_205 rfl ?_
              refine V_geti (r := 0) (pc := 206) dX12_walkNow_206 fX12_274 zk_256 ?_
              rw [mu_c (by decide : (256 : Nat) ≠ 296)]
              rw [mu_j (by decide : (36 : Nat) ≠ 37)]
              rw [mu_h]
              refine V_iloadn (pc := 209) dX12_walkNow_209 rfl ?_
              refine V_icmp_ne (pc := 210) (tgt := 217) dX12_walkNow_210 (by decide) (by omega) (by omega) (fun h210 => ?_) (fun h210 => ?_)
              · refine V_iload (pc := 217) dX12_walkNow_217 rfl ?_
                refine V_aloadn (pc := 219) dX12_walkNow_219 rfl ?_
                refine V_geti (r := 0) (pc := 220) dX12_walkNow_220 fX12_274 zk_256 ?_
                rw [mu_c (by decide : (256 : Nat) ≠ 296)]
                rw [mu_j (by decide : (36 : Nat) ≠ 37)]
                rw [mu_h]
                refine V_cs2 (pc := 223) dX12_walkNow_223 kX12_260 (by decide) (Nat.le_of_ble_eq_true rfl) (r_has) rfl ?_
                refine V_ifeq_b (pc := 226) (tgt := 233) dX12_walkNow_226 (by decide) (fun h226 => ?_) (fun h226 => ?_)
                · refine V_iconst (pc := 233) dX12_walkNow_233 ?_
                  refine V_puti (pc := 234) dX12_walkNow_234 fX12_283 zk_256 ?_
                  refine V_goto (pc := 237) (tgt := 39) dX12_walkNow_237 (by decide) ?_
                  first
                    | exact ih _ _ _ _ (pre ++ [gBy μ 32 x (rT μ 80 x t r)]) _ _ _ _ _ rfl q5 (by rw [List.length_append]; simp; omega) (WM_step hw hlast) (by rw [List.length_append]; exact getD_last) (by simp only [wk, if_neg (show ¬ rT μ 80 x t r = -1 by omega), if_neg (show ¬ gBy μ 32 x (rT μ 80 x t r) = t by omega), if_neg (show ¬ In been (gBy μ 32 x (rT μ 80 x t r)) from fun z => by have := (In_iff (s := been) (k := gBy μ 32 x (rT μ 80 x t r)) (by omega)).mp z; omega)] at hne; exact hne) (by rw [← hR]; simp only [wk, if_neg (show ¬ rT μ 80 x t r = -1 by omega), if_neg (show ¬ gBy μ 32 x (rT μ 80 x t r) = t by omega), if_neg (show ¬ In been (gBy μ 32 x (rT μ 80 x t r)) from fun z => by have := (In_iff (s := been) (k := gBy μ 32 x (rT μ 80 x t r)) (by omega)).mp z; omega), List.append_assoc, List.singleton_append])
                    | (have hl := rT_lost hG hx ht (r := r) (by omega)
                       exact l_mwExit (e := 2) hX mu_h (by decide) (by rw [← hR]; simp only [wk, if_pos hl]; rw [List.append_nil, hlast]; exact WM_lost hw))
                    | exact l_mwExit (e := 1) hX mu_h (by decide) (by rw [← hR]; simp only [wk, if_neg (show ¬ rT μ 80 x t r = -1 by omega), if_pos (show gBy μ 32 x (rT μ 80 x t r) = t by omega)]; rw [show (pre ++ [gBy μ 32 x (rT μ 80 x t r)]).length = pre.length + 1 by simp, getD_last]; exact WM_step hw hlast)
                    | exact l_mwExit (e := 3) hX mu_h (by decide) (by rw [← hR]; simp only [wk, if_neg (show ¬ rT μ 80 x t r = -1 by omega), if_neg (show ¬ gBy μ 32 x (rT μ 80 x t r) = t by omega), if_pos (show In been (gBy μ 32 x (rT μ 80 x t r)) from (In_iff (s := been) (k := gBy μ 32 x (rT μ 80 x t r)) (by omega)).mpr (by omega))]; rw [show (pre ++ [gBy μ 32 x (rT μ 80 x t r)]).length = pre.length + 1 by simp, getD_last]; exact WM_step hw hlast)
                · refine V_iconst (pc := 229) dX12_walkNow_229 ?_
                  refine V_goto (pc := 230) (tgt := 234) dX12_walkNow_230 (by decide) ?_
                  refine V_puti (pc := 234) dX12_walkNow_234 fX12_283 zk_256 ?_
                  refine V_goto (pc := 237) (tgt := 39) dX12_walkNow_237 (by decide) ?_
                  first
                    | exact ih _ _ _ _ (pre ++ [gBy μ 32 x (rT μ 80 x t r)]) _ _ _ _ _ rfl q5 (by rw [List.length_append]; simp; omega) (WM_step hw hlast) (by rw [List.length_append]; exact getD_last) (by simp only [wk, if_neg (show ¬ rT μ 80 x t r = -1 by omega), if_neg (show ¬ gBy μ 32 x (rT μ 80 x t r) = t by omega), if_neg (show ¬ In been (gBy μ 32 x (rT μ 80 x t r)) from fun z => by have := (In_iff (s := been) (k := gBy μ 32 x (rT μ 80 x t r)) (by omega)).mp z; omega)] at hne; exact hne) (by rw [← hR]; simp only [wk, if_neg (show ¬ rT μ 80 x t r = -1 by omega), if_neg (show ¬ gBy μ 32 x (rT μ 80 x t r) = t by omega), if_neg (show ¬ In been (gBy μ 32 x (rT μ 80 x t r)) from fun z => by have := (In_iff (s := been) (k := gBy μ 32 x (rT μ 80 x t r)) (by omega)).mp z; omega), List.append_assoc, List.singleton_append])
                    | (have hl := rT_lost hG hx ht (r := r) (by omega)
                       exact l_mwExit (e := 2) hX mu_h (by decide) (by rw [← hR]; simp only [wk, if_pos hl]; rw [List.append_nil, hlast]; exact WM_lost hw))
                    | exact l_mwExit (e := 1) hX mu_h (by decide) (by rw [← hR]; simp only [wk, if_neg (show ¬ rT μ 80 x t r = -1 by omega), if_pos (show gBy μ 32 x (rT μ 80 x t r) = t by omega)]; rw [show (pre ++ [gBy μ 32 x (rT μ 80 x t r)]).length = pre.length + 1 by simp, getD_last]; exact WM_step hw hlast)
                    | exact l_mwExit (e := 3) hX mu_h (by decide) (by rw [← hR]; simp only [wk, if_neg (show ¬ rT μ 80 x t r = -1 by omega), if_neg (show ¬ gBy μ 32 x (rT μ 80 x t r) = t by omega), if_pos (show In been (gBy μ 32 x (rT μ 80 x t r)) from (In_iff (s := been) (k := gBy μ 32 x (rT μ 80 x t r)) (by omega)).mpr (by omega))]; rw [show (pre ++ [gBy μ 32 x (rT μ 80 x t r)]).length = pre.length + 1 by simp, getD_last]; exact WM_step hw hlast)
              · refine V_iconst (pc := 213) dX12_walkNow_213 ?_
                refine V_goto (pc := 214) (tgt := 234) dX12_walkNow_214 (by decide) ?_
                refine V_puti (pc := 234) dX12_walkNow_234 fX12_283 zk_256 ?_
                refine V_goto (pc := 237) (tgt := 39) dX12_walkNow_237 (by decide) ?_
                first
                  | exact ih _ _ _ _ (pre ++ [gBy μ 32 x (rT μ 80 x t r)]) _ _ _ _ _ rfl q5 (by rw [List.length_append]; simp; omega) (WM_step hw hlast) (by rw [List.length_append]; exact getD_last) (by simp only [wk, if_neg (show ¬ rT μ 80 x t r = -1 by omega), if_neg (show ¬ gBy μ 32 x (rT μ 80 x t r) = t by omega), if_neg (show ¬ In been (gBy μ 32 x (rT μ 80 x t r)) from fun z => by have := (In_iff (s := been) (k := gBy μ 32 x (rT μ 80 x t r)) (by omega)).mp z; omega)] at hne; exact hne) (by rw [← hR]; simp only [wk, if_neg (show ¬ rT μ 80 x t r = -1 by omega), if_neg (show ¬ gBy μ 32 x (rT μ 80 x t r) = t by omega), if_neg (show ¬ In been (gBy μ 32 x (rT μ 80 x t r)) from fun z => by have := (In_iff (s := been) (k := gBy μ 32 x (rT μ 80 x t r)) (by omega)).mp z; omega), List.append_assoc, List.singleton_append])
                  | (have hl := rT_lost hG hx ht (r := r) (by omega)
                     exact l_mwExit (e := 2) hX mu_h (by decide) (by rw [← hR]; simp only [wk, if_pos hl]; rw [List.append_nil, hlast]; exact WM_lost hw))
                  | exact l_mwExit (e := 1) hX mu_h (by decide) (by rw [← hR]; simp only [wk, if_neg (show ¬ rT μ 80 x t r = -1 by omega), if_pos (show gBy μ 32 x (rT μ 80 x t r) = t by omega)]; rw [show (pre ++ [gBy μ 32 x (rT μ 80 x t r)]).length = pre.length + 1 by simp, getD_last]; exact WM_step hw hlast)
                  | exact l_mwExit (e := 3) hX mu_h (by decide) (by rw [← hR]; simp only [wk, if_neg (show ¬ rT μ 80 x t r = -1 by omega), if_neg (show ¬ gBy μ 32 x (rT μ 80 x t r) = t by omega), if_pos (show In been (gBy μ 32 x (rT μ 80 x t r)) from (In_iff (s := been) (k := gBy μ 32 x (rT μ 80 x t r)) (by omega)).mpr (by omega))]; rw [show (pre ++ [gBy μ 32 x (rT μ 80 x t r)]).length = pre.length + 1 by simp, getD_last]; exact WM_step hw hlast)
          · refine V_aloadn (pc := 99) dX12_walkNow_99 rfl ?_
            refine V_iconst (pc := 100) dX12_walkNow_100 ?_
            refine V_puti (pc := 101) dX12_walkNow_101 fX12_283 zk_256 ?_
            refine V_goto (pc := 104) (tgt := 237) dX12_walkNow_104 (by decide) ?_
            refine V_goto (pc := 237) (tgt := 39) dX12_walkNow_237 (by decide) ?_
            first
              | exact ih _ _ _ _ (pre ++ [gBy μ 32 x (rT μ 80 x t r)]) _ _ _ _ _ rfl q5 (by rw [List.length_append]; simp; omega) (WM_step hw hlast) (by rw [List.length_append]; exact getD_last) (by simp only [wk, if_neg (show ¬ rT μ 80 x t r = -1 by omega), if_neg (show ¬ gBy μ 32 x (rT μ 80 x t r) = t by omega), if_neg (show ¬ In been (gBy μ 32 x (rT μ 80 x t r)) from fun z => by have := (In_iff (s := been) (k := gBy μ 32 x (rT μ 80 x t r)) (by omega)).mp z; omega)] at hne; exact hne) (by rw [← hR]; simp only [wk, if_neg (show ¬ rT μ 80 x t r = -1 by omega), if_neg (show ¬ gBy μ 32 x (rT μ 80 x t r) = t by omega), if_neg (show ¬ In been (gBy μ 32 x (rT μ 80 x t r)) from fun z => by have := (In_iff (s := been) (k := gBy μ 32 x (rT μ 80 x t r)) (by omega)).mp z; omega), List.append_assoc, List.singleton_append])
              | (have hl := rT_lost hG hx ht (r := r) (by omega)
                 exact l_mwExit (e := 2) hX mu_h (by decide) (by rw [← hR]; simp only [wk, if_pos hl]; rw [List.append_nil, hlast]; exact WM_lost hw))
              | exact l_mwExit (e := 1) hX mu_h (by decide) (by rw [← hR]; simp only [wk, if_neg (show ¬ rT μ 80 x t r = -1 by omega), if_pos (show gBy μ 32 x (rT μ 80 x t r) = t by omega)]; rw [show (pre ++ [gBy μ 32 x (rT μ 80 x t r)]).length = pre.length + 1 by simp, getD_last]; exact WM_step hw hlast)
              | exact l_mwExit (e := 3) hX mu_h (by decide) (by rw [← hR]; simp only [wk, if_neg (show ¬ rT μ 80 x t r = -1 by omega), if_neg (show ¬ gBy μ 32 x (rT μ 80 x t r) = t by omega), if_pos (show In been (gBy μ 32 x (rT μ 80 x t r)) from (In_iff (s := been) (k := gBy μ 32 x (rT μ 80 x t r)) (by omega)).mpr (by omega))]; rw [show (pre ++ [gBy μ 32 x (rT μ 80 x t r)]).length = pre.length + 1 by simp, getD_last]; exact WM_step hw hlast)

theorem iorr_0 {x : Int} (h : inR x) : iorr 0 x = x := by
  unfold iorr
  rw [show Int32.ofInt 0 ||| Int32.ofInt x = Int32.ofInt x from by rw [show Int32.ofInt 0 = 0 from by decide]; exact Int32.zero_or, zi_to h]

set_option maxRecDepth 20000 in
theorem r_walkNow {μ : Mem} (hG : GI μ) {a t r : Int} (ha : 0 ≤ a ∧ a < μ 32 0) (ht : 0 ≤ t ∧ t < μ 32 0) (hr : inR r) (hne : ¬ (wkF μ a t r).1 = 0) : SP mX12_walkNow [vr 256, vi a, vi t, vi r] μ (fun w m => w = un ∧ WM μ m t a (wkF μ a t r).2.1 (wkF μ a t r).2.2 (wkF μ a t r).1 ((a :: (wkF μ a t r).2.2).getD (wkF μ a t r).2.2.length 0)) := by
  refine SP_intro (ls := [vr 256, vi a, vi t, vi r, un, un, un, un, un]) (by decide +kernel) rfl rfl (Nat.le_of_ble_eq_true rfl) rfl (fun X hX => ?_)
  obtain ⟨hL, hO, hV, hRM⟩ := id hG
  obtain ⟨hL0, -⟩ := id hL
  refine V_iconst (pc := 0) dX12_walkNow_0 ?_
  refine V_istore_4 (pc := 1) dX12_walkNow_1 (by decide) rfl ?_
  refine V_aloadn (pc := 3) dX12_walkNow_3 rfl ?_
  refine V_iloadn (pc := 4) dX12_walkNow_4 rfl ?_
  refine V_puti (pc := 5) dX12_walkNow_5 fX12_274 zk_256 ?_
  refine V_aloadn (pc := 8) dX12_walkNow_8 rfl ?_
  refine V_iconst (pc := 9) dX12_walkNow_9 ?_
  refine V_puti (pc := 10) dX12_walkNow_10 fX12_277 zk_256 ?_
  refine V_aloadn (pc := 13) dX12_walkNow_13 rfl ?_
  refine V_iconst (pc := 14) dX12_walkNow_14 ?_
  refine V_puti (pc := 15) dX12_walkNow_15 fX12_280 zk_256 ?_
  refine V_aloadn (pc := 18) dX12_walkNow_18 rfl ?_
  refine V_iloadn (pc := 19) dX12_walkNow_19 rfl ?_
  refine V_iloadn (pc := 20) dX12_walkNow_20 rfl ?_
  refine V_icmp_ne (pc := 21) (tgt := 28) dX12_walkNow_21 (by decide) (by omega) (by omega) (fun h21 => ?_) (fun h21 => ?_)
  · refine V_iconst (pc := 28) dX12_walkNow_28 ?_
    refine V_puti (pc := 29) dX12_walkNow_29 fX12_283 zk_256 ?_
    refine V_aloadn (pc := 32) dX12_walkNow_32 rfl ?_
    refine V_getr (pc := 33) dX12_walkNow_33 fX12_74 zk_256 zr_256_39 ?_
    refine V_iconst (pc := 36) dX12_walkNow_36 ?_
    refine V_iloadn (pc := 37) dX12_walkNow_37 rfl ?_
    refine V_iast (pc := 38) dX12_walkNow_38 zk_296 (by omega) (by omega) (by decide) ?_
    first
      | (have e : wkF μ a t r = wk μ t r 9 a (ishl 1 a) 0 := by unfold wkF; rw [if_neg (by omega)]
         rw [e] at hne hX
         exact l_walkNow hG ht hr hX 9 a 0 (ishl 1 a) 0 [] _ _ _ _ _ (iorr_0 (zi_rg _)) ha (by simp) (WM_init μ t a 0) (by simp) hne (by simp))
      | (have e : wkF μ a t r = (1, 0, []) := by unfold wkF; rw [if_pos (by omega)]
         rw [e] at hX
         exact l_mwExit (e := 1) hX (by rw [mu_c (by decide), mu_h]) (by decide) (WM_init μ t a 1))
  · refine V_iconst (pc := 24) dX12_walkNow_24 ?_
    refine V_goto (pc := 25) (tgt := 29) dX12_walkNow_25 (by decide) ?_
    refine V_puti (pc := 29) dX12_walkNow_29 fX12_283 zk_256 ?_
    refine V_aloadn (pc := 32) dX12_walkNow_32 rfl ?_
    refine V_getr (pc := 33) dX12_walkNow_33 fX12_74 zk_256 zr_256_39 ?_
    refine V_iconst (pc := 36) dX12_walkNow_36 ?_
    refine V_iloadn (pc := 37) dX12_walkNow_37 rfl ?_
    refine V_iast (pc := 38) dX12_walkNow_38 zk_296 (by omega) (by omega) (by decide) ?_
    first
      | (have e : wkF μ a t r = wk μ t r 9 a (ishl 1 a) 0 := by unfold wkF; rw [if_neg (by omega)]
         rw [e] at hne hX
         exact l_walkNow hG ht hr hX 9 a 0 (ishl 1 a) 0 [] _ _ _ _ _ (iorr_0 (zi_rg _)) ha (by simp) (WM_init μ t a 0) (by simp) hne (by simp))
      | (have e : wkF μ a t r = (1, 0, []) := by unfold wkF; rw [if_pos (by omega)]
         rw [e] at hX
         exact l_mwExit (e := 1) hX (by rw [mu_c (by decide), mu_h]) (by decide) (WM_init μ t a 1))


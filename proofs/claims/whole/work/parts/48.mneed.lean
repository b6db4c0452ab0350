def mnI (μ : Mem) (p g : Int) : Nat → Nat → Int → Int
  | 0, _, acc => acc
  | n + 1, i, acc => mnI μ p g n (i + 1) (iorr acc (if (wkF μ (gFr μ 32 g) (gTo μ 32 g) 0).1 = 1 ∧ tWay μ g i = p then ishl 1 (gArm μ 32 (tWay μ g i) (gTo μ 32 g)) else 0))
theorem mnI_s {μ : Mem} {p g : Int} {n i : Nat} {acc : Int} : mnI μ p g (n + 1) i acc = mnI μ p g n (i + 1) (iorr acc (if (wkF μ (gFr μ 32 g) (gTo μ 32 g) 0).1 = 1 ∧ tWay μ g i = p then ishl 1 (gArm μ 32 (tWay μ g i) (gTo μ 32 g)) else 0)) := rfl
def mnO (μ : Mem) (p : Int) : Nat → Int → Int → Int
  | 0, _, acc => acc
  | n + 1, g, acc => mnO μ p n (g + 1) (mnI μ p g (wkF μ (gFr μ 32 g) (gTo μ 32 g) 0).2.2.length 0 acc)
theorem mnO_s {μ : Mem} {p : Int} {n : Nat} {g acc : Int} : mnO μ p (n + 1) g acc = mnO μ p n (g + 1) (mnI μ p g (wkF μ (gFr μ 32 g) (gTo μ 32 g) 0).2.2.length 0 acc) := rfl
def mnA (μ : Mem) (p : Int) : Int := mnO μ p (μ 32 2).toNat 0 0
theorem tWay_rg {μ : Mem} (hL : LOK μ 32) (g : Int) (i : Nat) : inR (tWay μ g i) := by
  unfold tWay
  have h1 := gFr_rg hL g
  cases i with
  | zero => simpa using h1
  | succ j =>
    rw [List.getD_cons_succ, List.getD_eq_getElem?_getD]
    cases h : (wkF μ (gFr μ 32 g) (gTo μ 32 g) 0).2.2[j]? with
    | none => decide
    | some v => exact wkF_pl hL v (List.mem_of_getElem? h)

set_option maxRecDepth 20000 in
theorem l_mnI {μ μ2 m : Mem} (hL : LOK μ 32) (hag : Ag μ μ2) {p g : Int} (hp : inR p) (hm : WM μ2 m (gTo μ 32 g) (gFr μ 32 g) (wkF μ (gFr μ 32 g) (gTo μ 32 g) 0).2.1 (wkF μ (gFr μ 32 g) (gTo μ 32 g) 0).2.2 (wkF μ (gFr μ 32 g) (gTo μ 32 g) 0).1 ((gFr μ 32 g :: (wkF μ (gFr μ 32 g) (gTo μ 32 g) 0).2.2).getD (wkF μ (gFr μ 32 g) (gTo μ 32 g) 0).2.2.length 0)) (rr : (0 ≤ (wkF μ (gFr μ 32 g) (gTo μ 32 g) 0).1 ∧ (wkF μ (gFr μ 32 g) (gTo μ 32 g) 0).1 ≤ 3) ∧ (wkF μ (gFr μ 32 g) (gTo μ 32 g) 0).2.2.length ≤ 9) {R : Int} {X : ZX} (hex : ∀ i, V X mX12_neededAt 82 [vr 256, vi p, vi R, vi g, vi i] [] m) : ∀ (n : Nat) (i acc : Int), (i + n = (wkF μ (gFr μ 32 g) (gTo μ 32 g) 0).2.2.length) → (0 ≤ i) → (mnI μ p g n i.toNat acc = R) → V X mX12_neededAt 32 [vr 256, vi p, vi acc, vi g, vi i] [] m := by
  intro n
  induction n with
  | zero =>
    intro i acc h1 h2 hR0
    refine V_iload (pc := 32) dX12_neededAt_32 rfl ?_
    refine V_aloadn (pc := 34) dX12_neededAt_34 rfl ?_
    refine V_geti (r := 0) (pc := 35) dX12_neededAt_35 fX12_280 zk_256 ?_
    rw [hm.2.2.2.2.1]
    refine V_icmp_ge (pc := 38) (tgt := 82) dX12_neededAt_38 (by decide) (by omega) (by omega) (fun h38 => ?_) (fun h38 => ?_)
    · obtain rfl : acc = R := hR0
      exact hex _
    · exfalso; omega
  | succ n ih =>
    intro i acc h1 h2 hR0
    have e1 : m 296 i.toNat = tWay μ g i.toNat := hm.2.2.2.2.2.1 i.toNat (by omega)
    have e2 : m 297 i.toNat = gArm μ 32 (tWay μ g i.toNat) (gTo μ 32 g) := by rw [← gArm_ag hag]; exact hm.2.2.2.2.2.2 i.toNat (by omega)
    have tr := tWay_rg hL g i.toNat
    refine V_iload (pc := 32) dX12_neededAt_32 rfl ?_
    refine V_aloadn (pc := 34) dX12_neededAt_34 rfl ?_
    refine V_geti (r := 0) (pc := 35) dX12_neededAt_35 fX12_280 zk_256 ?_
    rw [hm.2.2.2.2.1]
    refine V_icmp_ge (pc := 38) (tgt := 82) dX12_neededAt_38 (by decide) (by omega) (by omega) (fun h38 => ?_) (fun h38 => ?_)
    · exfalso; omega
    · refine V_iloadn (pc := 41) dX12_neededAt_41 rfl ?_
      refine V_aloadn (pc := 42) dX12_neededAt_42 rfl ?_
      refine V_geti (r := 0) (pc := 43) dX12_neededAt_43 fX12_283 zk_256 ?_
      rw [hm.2.1]
      refine V_iconst (pc := 46) dX12_neededAt_46 ?_
      refine V_icmp_ne (pc := 47) (tgt := 73) dX12_neededAt_47 (by decide) (by omega) (by decide) (fun h47 => ?_) (fun h47 => ?_)
      · refine V_iconst (pc := 73) dX12_neededAt_73 ?_
        refine V_ior (pc := 74) dX12_neededAt_74 ?_
        refine V_istore_2 (pc := 75) dX12_neededAt_75 (by decide) rfl ?_
        refine V_iinc_4 (pc := 76) dX12_neededAt_76 (by decide) rfl ?_
        refine V_goto (pc := 79) (tgt := 32) dX12_neededAt_79 (by decide) ?_
        exact ih _ _ (by omega) (by omega) (by rw [← hR0, mnI_s, show (i + 1).toNat = i.toNat + 1 by omega]; first | rw [if_pos (by omega)] | rw [if_neg (by omega)])
      · refine V_aloadn (pc := 50) dX12_neededAt_50 rfl ?_
        refine V_getr (pc := 51) dX12_neededAt_51 fX12_74 zk_256 zr_256_39 ?_
        refine V_iload (pc := 54) dX12_neededAt_54 rfl ?_
        refine V_iald (pc := 56) dX12_neededAt_56 zk_296 (by omega) (by omega) (by decide) ?_
        rw [e1]
        refine V_iloadn (pc := 57) dX12_neededAt_57 rfl ?_
        refine V_icmp_ne (pc := 58) (tgt := 73) dX12_neededAt_58 (by decide) (by omega) (by omega) (fun h58 => ?_) (fun h58 => ?_)
        · refine V_iconst (pc := 73) dX12_neededAt_73 ?_
          refine V_ior (pc := 74) dX12_neededAt_74 ?_
          refine V_istore_2 (pc := 75) dX12_neededAt_75 (by decide) rfl ?_
          refine V_iinc_4 (pc := 76) dX12_neededAt_76 (by decide) rfl ?_
          refine V_goto (pc := 79) (tgt := 32) dX12_neededAt_79 (by decide) ?_
          exact ih _ _ (by omega) (by omega) (by rw [← hR0, mnI_s, show (i + 1).toNat = i.toNat + 1 by omega]; first | rw [if_pos (by omega)] | rw [if_neg (by omega)])
        · refine V_iconst (pc := 61) dX12_neededAt_61 ?_
          refine V_aloadn (pc := 62) dX12_neededAt_62 rfl ?_
          refine V_getr (pc := 63) dX12_neededAt_63 fX12_77 zk_256 zr_256_40 ?_
          refine V_iload (pc := 66) dX12_neededAt_66 rfl ?_
          refine V_iald (pc := 68) dX12_neededAt_68 zk_297 (by omega) (by omega) (by decide) ?_
          rw [e2]
          refine V_ishl (pc := 69) dX12_neededAt_69 ?_
          refine V_goto (pc := 70) (tgt := 74) dX12_neededAt_70 (by decide) ?_
          refine V_ior (pc := 74) dX12_neededAt_74 ?_
          refine V_istore_2 (pc := 75) dX12_neededAt_75 (by decide) rfl ?_
          refine V_iinc_4 (pc := 76) dX12_neededAt_76 (by decide) rfl ?_
          refine V_goto (pc := 79) (tgt := 32) dX12_neededAt_79 (by decide) ?_
          exact ih _ _ (by omega) (by omega) (by rw [← hR0, mnI_s, show (i + 1).toNat = i.toNat + 1 by omega]; first | rw [if_pos (by omega)] | rw [if_neg (by omega)])

set_option maxRecDepth 20000 in
theorem l_mnO {μ : Mem} (hW : GW μ) {p : Int} (hp : inR p) {R : Int} {X : ZX} (hX : isM X (fun w m => w = vi R ∧ MWf μ m)) : ∀ (n : Nat) (g acc : Int) (y4 : AV) (ν : Mem), (g + n = μ 32 2) → (0 ≤ g) → (MWf μ ν) → (mnO μ p n g acc = R) → V X mX12_neededAt 4 [vr 256, vi p, vi acc, vi g, y4] [] ν := by
  intro n
  induction n with
  | zero =>
    intro g acc y4 ν h1 h2 hw hR0
    obtain ⟨hG, hln, hne, hcf⟩ := id hW
    obtain ⟨hL, hO, hV, hR⟩ := id hG
    obtain ⟨hL0, hL1, hL2, hL3, hL4⟩ := id hL
    obtain ⟨⟨r0, r1, r2⟩, hR1, hR2, hR3, hR4, hR5, hR6⟩ := id hR
    have hmc := hw.mc
    have hGn := GI_mc hmc hG
    have hag := hmc.ag
    have rt : ν 256 5 = μ 32 2 := by rw [hmc.2.2 5 (by decide), r2]
    refine V_iloadn (pc := 4) dX12_neededAt_4 rfl ?_
    refine V_aloadn (pc := 5) dX12_neededAt_5 rfl ?_
    refine V_geti (r := 0) (pc := 6) dX12_neededAt_6 fX12_221 zk_256 ?_
    rw [rt]
    refine V_icmp_ge (pc := 9) (tgt := 88) dX12_neededAt_9 (by decide) (by omega) (by omega) (fun h9 => ?_) (fun h9 => ?_)
    · refine V_iloadn (pc := 88) dX12_neededAt_88 rfl ?_
      refine V_iret hX dX12_neededAt_89 rfl ?_
      exact ⟨congrArg vi hR0, hw⟩
    · exfalso; omega
  | succ n ih =>
    intro g acc y4 ν h1 h2 hw hR0
    obtain ⟨hG, hln, hne, hcf⟩ := id hW
    have hs : inR (0 : Int) := by decide
    obtain ⟨hL, hO, hV, hR⟩ := id hG
    obtain ⟨hL0, hL1, hL2, hL3, hL4⟩ := id hL
    obtain ⟨⟨r0, r1, r2⟩, hR1, hR2, hR3, hR4, hR5, hR6⟩ := id hR
    have hmc := hw.mc
    have hGn := GI_mc hmc hG
    have hag := hmc.ag
    have rt : ν 256 5 = μ 32 2 := by rw [hmc.2.2 5 (by decide), r2]
    have tv := RM.trav hG (g := g) (by omega)
    have e263 : ν 263 g.toNat = gFr μ 32 g := by rw [hmc.2.1 263 (by decide) (by decide)]; exact tv.1
    have e264 : ν 264 g.toNat = gTo μ 32 g := by rw [hmc.2.1 264 (by decide) (by decide)]; exact tv.2.1
    have e32 : ν 32 0 = μ 32 0 := by rw [hag 32 (by decide)]
    have fa := RM.arm hG (p := gFr μ 32 g) (t := gTo μ 32 g) tv.2.2.2.1 tv.2.2.2.2.1
    have rr := wkF_rg μ hln (gFr μ 32 g) (gTo μ 32 g) 0
    have nz := hne (gFr μ 32 g) (gTo μ 32 g) 0 tv.2.2.2.1 tv.2.2.2.2.1 (show inR (0 : Int) by decide)
    refine V_iloadn (pc := 4) dX12_neededAt_4 rfl ?_
    refine V_aloadn (pc := 5) dX12_neededAt_5 rfl ?_
    refine V_geti (r := 0) (pc := 6) dX12_neededAt_6 fX12_221 zk_256 ?_
    rw [rt]
    refine V_icmp_ge (pc := 9) (tgt := 88) dX12_neededAt_9 (by decide) (by omega) (by omega) (fun h9 => ?_) (fun h9 => ?_)
    · exfalso; omega
    · refine V_aloadn (pc := 12) dX12_neededAt_12 rfl ?_
      refine V_aloadn (pc := 13) dX12_neededAt_13 rfl ?_
      refine V_getr (pc := 14) dX12_neededAt_14 fX12_19 zk_256 zr_256_6 ?_
      refine V_iloadn (pc := 17) dX12_neededAt_17 rfl ?_
      refine V_iald (pc := 18) dX12_neededAt_18 zk_263 (by omega) (by omega) (by decide) ?_
      rw [e263]
      refine V_aloadn (pc := 19) dX12_neededAt_19 rfl ?_
      refine V_getr (pc := 20) dX12_neededAt_20 fX12_22 zk_256 zr_256_7 ?_
      refine V_iloadn (pc := 23) dX12_neededAt_23 rfl ?_
      refine V_iald (pc := 24) dX12_neededAt_24 zk_264 (by omega) (by omega) (by decide) ?_
      rw [e264]
      refine V_iconst (pc := 25) dX12_neededAt_25 ?_
      refine V_cq3 (pc := 26) dX12_neededAt_26 kX12_286 zk_256 (by decide) (Nat.le_of_ble_eq_true rfl) (r_walkNow hGn (by rw [e32]; exact tv.2.2.2.1) (by rw [e32]; exact tv.2.2.2.2.1) hs (by rw [wkF_ag hag]; exact nz)) ?_
      intro w m hm
      obtain ⟨rfl, hm⟩ := hm
      rw [wkF_ag hag] at hm
      have hw2 := MWf.tr hw hm.1
      have hmc2 := hw2.mc
      have e263' : m 263 g.toNat = gFr μ 32 g := by rw [hmc2.2.1 263 (by decide) (by decide)]; exact tv.1
      have e264' : m 264 g.toNat = gTo μ 32 g := by rw [hmc2.2.1 264 (by decide) (by decide)]; exact tv.2.1
      have e265' : m 265 g.toNat = gHd μ 32 g := by rw [hmc2.2.1 265 (by decide) (by decide)]; exact tv.2.2.1
      have e268' : m 268 (9 * gFr μ 32 g + gTo μ 32 g).toNat = (if gFar μ 32 (gFr μ 32 g) (gTo μ 32 g) = -1 then 1000000 else gFar μ 32 (gFr μ 32 g) (gTo μ 32 g)) := by rw [hmc2.2.1 268 (by decide) (by decide)]; exact fa.2.1
      show V X _ _ _ _ m
      refine V_iconst (pc := 29) dX12_neededAt_29 ?_
      refine V_istore_4 (pc := 30) dX12_neededAt_30 (by decide) rfl ?_
      refine l_mnI hL hag hp hm (by omega) (fun i => ?_) (wkF μ (gFr μ 32 g) (gTo μ 32 g) 0).2.2.length 0 _ (by omega) (by omega) rfl
      refine V_iinc_3 (pc := 82) dX12_neededAt_82 (by decide) rfl ?_
      refine V_goto (pc := 85) (tgt := 4) dX12_neededAt_85 (by decide) ?_
      exact ih _ _ _ _ (by omega) (by omega) hw2 (by rw [← hR0, mnO_s]; rfl)

set_option maxRecDepth 20000 in
theorem r_neededAt {μ : Mem} (hW : GW μ) {p : Int} (hp : inR p) : SP mX12_neededAt [vr 256, vi p] μ (fun w m => w = vi (mnA μ p) ∧ MWf μ m) := by
  refine SP_intro (ls := [vr 256, vi p, un, un, un]) (by decide +kernel) rfl rfl (Nat.le_of_ble_eq_true rfl) rfl (fun X hX => ?_)
  obtain ⟨hG, hln, hne, hcf⟩ := id hW
  obtain ⟨hL, hO, hV, hR⟩ := id hG
  obtain ⟨hL0, hL1, hL2, hL3, hL4⟩ := id hL
  obtain ⟨⟨r0, r1, r2⟩, hR1, hR2, hR3, hR4, hR5, hR6⟩ := id hR
  refine V_iconst (pc := 0) dX12_neededAt_0 ?_
  refine V_istore_2 (pc := 1) dX12_neededAt_1 (by decide) rfl ?_
  refine V_iconst (pc := 2) dX12_neededAt_2 ?_
  refine V_istore_3 (pc := 3) dX12_neededAt_3 (by decide) rfl ?_
  exact l_mnO hW hp hX (μ 32 2).toNat 0 0 _ μ (by omega) (by omega) (MWf.rf μ) rfl

theorem mkU_agx {μ ν : Mem} (g : Ag μ ν) : True := trivial
theorem tWay_ag {μ ν : Mem} (a : Ag μ ν) (g : Int) : tWay ν g = tWay μ g := by unfold tWay; simp only [gFr_ag a, gTo_ag a, wkF_ag a]
theorem mnI_ag {μ ν : Mem} (a : Ag μ ν) (p g : Int) : ∀ (n i : Nat) (acc : Int), mnI ν p g n i acc = mnI μ p g n i acc := by
  intro n
  induction n with
  | zero => intros; rfl
  | succ n ih => intro i acc; simp only [mnI_s, gFr_ag a, gTo_ag a, wkF_ag a, tWay_ag a, gArm_ag a, ih]
theorem mnO_ag {μ ν : Mem} (a : Ag μ ν) (p : Int) : ∀ (n : Nat) (g acc : Int), mnO ν p n g acc = mnO μ p n g acc := by
  intro n
  induction n with
  | zero => intros; rfl
  | succ n ih => intro g acc; simp only [mnO_s, gFr_ag a, gTo_ag a, wkF_ag a, mnI_ag a, ih]
theorem mnA_ag {μ ν : Mem} (a : Ag μ ν) (p : Int) : mnA ν p = mnA μ p := by unfold mnA; rw [mnO_ag a, a 32 (by decide)]
def mnS (μ : Mem) : Nat → Int → Int → Int
  | 0, _, acc => acc
  | n + 1, q, acc => mnS μ n (q + 1) (acc + bitsF (mnA μ q))
theorem mnS_s {μ : Mem} {n : Nat} {q acc : Int} : mnS μ (n + 1) q acc = mnS μ n (q + 1) (acc + bitsF (mnA μ q)) := rfl
def mNeed (μ : Mem) (p : Int) : Int := if p = -1 then mnS μ (μ 32 0).toNat 0 0 else if 0 ≤ p ∧ p < μ 32 0 then mnA μ p else -1000000001

set_option maxRecDepth 20000 in
theorem l_mneeded {μ : Mem} (hW : GW μ) {z R : Int} {X : ZX} (hX : isM X (fun w m => w = vi R ∧ MWf μ m)) : ∀ (n : Nat) (q acc : Int) (ν : Mem), (q + n = μ 32 0) → (0 ≤ q) → (MWf μ ν) → (mnS μ n q acc = R) → V X mX12_needed 28 [vr 256, vi z, vi acc, vi q] [] ν := by
  intro n
  induction n with
  | zero =>
    intro q acc ν h1 h2 hw hR0
    obtain ⟨hG, hln, hne, hcf⟩ := id hW
    obtain ⟨hL, hO, hV, hR⟩ := id hG
    obtain ⟨hL0, hL1, hL2, hL3, hL4⟩ := id hL
    obtain ⟨⟨r0, r1, r2⟩, hR1, hR2, hR3, hR4, hR5, hR6⟩ := id hR
    have hmc := hw.mc
    have hag := hmc.ag
    have e0 : ν 256 0 = μ 32 0 := by rw [hmc.2.2 0 (by decide), r0]
    refine V_iloadn (pc := 28) dX12_needed_28 rfl ?_
    refine V_aloadn (pc := 29) dX12_needed_29 rfl ?_
    refine V_geti (r := 0) (pc := 30) dX12_needed_30 fX12_118 zk_256 ?_
    rw [e0]
    refine V_icmp_ge (pc := 33) (tgt := 53) dX12_needed_33 (by decide) (by omega) (by omega) (fun h33 => ?_) (fun h33 => ?_)
    · refine V_iloadn (pc := 53) dX12_needed_53 rfl ?_
      refine V_iret hX dX12_needed_54 rfl ?_
      exact ⟨congrArg vi hR0, hw⟩
    · exfalso; omega
  | succ n ih =>
    intro q acc ν h1 h2 hw hR0
    obtain ⟨hG, hln, hne, hcf⟩ := id hW
    obtain ⟨hL, hO, hV, hR⟩ := id hG
    obtain ⟨hL0, hL1, hL2, hL3, hL4⟩ := id hL
    obtain ⟨⟨r0, r1, r2⟩, hR1, hR2, hR3, hR4, hR5, hR6⟩ := id hR
    have hmc := hw.mc
    have hag := hmc.ag
    have e0 : ν 256 0 = μ 32 0 := by rw [hmc.2.2 0 (by decide), r0]
    refine V_iloadn (pc := 28) dX12_needed_28 rfl ?_
    refine V_aloadn (pc := 29) dX12_needed_29 rfl ?_
    refine V_geti (r := 0) (pc := 30) dX12_needed_30 fX12_118 zk_256 ?_
    rw [e0]
    refine V_icmp_ge (pc := 33) (tgt := 53) dX12_needed_33 (by decide) (by omega) (by omega) (fun h33 => ?_) (fun h33 => ?_)
    · exfalso; omega
    · refine V_iloadn (pc := 36) dX12_needed_36 rfl ?_
      refine V_aloadn (pc := 37) dX12_needed_37 rfl ?_
      refine V_iloadn (pc := 38) dX12_needed_38 rfl ?_
      refine V_cq1 (pc := 39) dX12_needed_39 kX12_325 zk_256 (by decide) (Nat.le_of_ble_eq_true rfl) (r_neededAt (GW_mc hmc hW) (by omega)) ?_
      intro w m hm
      obtain ⟨rfl, hm⟩ := hm
      have hw2 := MWf.tr hw hm
      rw [mnA_ag hag]
      show V X _ _ _ (vi (mnA μ q) :: _) m
      refine V_cs1 (pc := 42) dX12_needed_42 kX12_299 (by decide) (Nat.le_of_ble_eq_true rfl) (r_bits) rfl ?_
      refine V_iadd (pc := 45) dX12_needed_45 ?_
      refine V_istore_2 (pc := 46) dX12_needed_46 (by decide) rfl ?_
      refine V_iinc_3 (pc := 47) dX12_needed_47 (by decide) rfl ?_
      refine V_goto (pc := 50) (tgt := 28) dX12_needed_50 (by decide) ?_
      exact ih _ _ _ (by omega) (by omega) hw2 (by rw [← hR0, mnS_s])

set_option maxRecDepth 20000 in
theorem r_needed {μ : Mem} (hW : GW μ) {p : Int} (hp : inR p) : SP mX12_needed [vr 256, vi p] μ (fun w m => w = vi (mNeed μ p) ∧ MWf μ m) := by
  refine SP_intro (ls := [vr 256, vi p, un, un]) (by decide +kernel) rfl rfl (Nat.le_of_ble_eq_true rfl) rfl (fun X hX => ?_)
  obtain ⟨hG, hln, hne, hcf⟩ := id hW
  obtain ⟨hL, hO, hV, hR⟩ := id hG
  obtain ⟨hL0, hL1, hL2, hL3, hL4⟩ := id hL
  obtain ⟨⟨r0, r1, r2⟩, hR1, hR2, hR3, hR4, hR5, hR6⟩ := id hR
  refine V_iloadn (pc := 0) dX12_needed_0 rfl ?_
  refine V_iconst (pc := 1) dX12_needed_1 ?_
  refine V_icmp_eq (pc := 2) (tgt := 24) dX12_needed_2 (by decide) (by omega) (by decide) (fun h2 => ?_) (fun h2 => ?_)
  · refine V_iconst (pc := 24) dX12_needed_24 ?_
    refine V_istore_2 (pc := 25) dX12_needed_25 (by decide) rfl ?_
    refine V_iconst (pc := 26) dX12_needed_26 ?_
    refine V_istore_3 (pc := 27) dX12_needed_27 (by decide) rfl ?_
    have e : mNeed μ p = mnS μ (μ 32 0).toNat 0 0 := by unfold mNeed; rw [if_pos (by omega)]
    rw [e] at hX
    exact l_mneeded hW hX (μ 32 0).toNat 0 0 μ (by omega) (by omega) (MWf.rf μ) rfl
  · refine V_aloadn (pc := 5) dX12_needed_5 rfl ?_
    refine V_iloadn (pc := 6) dX12_needed_6 rfl ?_
    refine V_cv1 (pc := 7) dX12_needed_7 kX12_125 zk_256 (by decide) (Nat.le_of_ble_eq_true rfl) (r_isPlace (by rw [r0]; exact hL0) (by omega)) rfl ?_
    rw [bi_cg (show (0 ≤ p ∧ p < μ 256 0) ↔ (0 ≤ p ∧ p < μ 32 0) by rw [r0])]
    refine V_ifeq_b (pc := 10) (tgt := 21) dX12_needed_10 (by decide) (fun h10 => ?_) (fun h10 => ?_)
    · refine V_ldc (pc := 21) (n := -1000000001) dX12_needed_21 nX12_246 (by decide) ?_
      refine V_iret hX dX12_needed_23 rfl ?_
      first
        | exact ⟨congrArg vi (by unfold mNeed; rw [if_neg (by omega), if_pos (by omega)]), hm⟩
        | exact ⟨congrArg vi (by unfold mNeed; rw [if_neg (by omega), if_neg (by omega)]), MWf.rf μ⟩
    · refine V_aloadn (pc := 13) dX12_needed_13 rfl ?_
      refine V_iloadn (pc := 14) dX12_needed_14 rfl ?_
      refine V_cq1 (pc := 15) dX12_needed_15 kX12_325 zk_256 (by decide) (Nat.le_of_ble_eq_true rfl) (r_neededAt hW hp) ?_
      intro w m hm
      obtain ⟨rfl, hm⟩ := hm
      show V X _ _ _ (vi (mnA μ p) :: _) m
      refine V_goto (pc := 18) (tgt := 23) dX12_needed_18 (by decide) ?_
      refine V_iret hX dX12_needed_23 rfl ?_
      first
        | exact ⟨congrArg vi (by unfold mNeed; rw [if_neg (by omega), if_pos (by omega)]), hm⟩
        | exact ⟨congrArg vi (by unfold mNeed; rw [if_neg (by omega), if_neg (by omega)]), MWf.rf μ⟩


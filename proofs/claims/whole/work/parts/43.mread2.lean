/-- all that reading methods of the reference take as given -/
def GW (μ : Mem) : Prop := GI μ ∧ (∀ r, 0 ≤ gLn μ 32 r ∧ gLn μ 32 r ≤ 99) ∧ (∀ a t r, (0 ≤ a ∧ a < μ 32 0) → (0 ≤ t ∧ t < μ 32 0) → inR r → ¬ (wkF μ a t r).1 = 0) ∧ (∀ g s, (0 ≤ g ∧ g < μ 32 2) → inR s → (wkF μ (gFr μ 32 g) (gTo μ 32 g) s).1 = 1 → ¬ gFar μ 32 (gFr μ 32 g) (gTo μ 32 g) = -1)
theorem GW_mc {μ ν : Mem} (h : MC μ ν) (g : GW μ) : GW ν := by
  have a := h.ag
  obtain ⟨g1, g2, g3, g4⟩ := g
  refine ⟨GI_mc h g1, fun r => by rw [gLn_ag a]; exact g2 r, fun x t r h1 h2 h3 => ?_, fun x s h1 h2 => ?_⟩
  · rw [a 32 (by decide)] at h1 h2; rw [wkF_ag a]; exact g3 x t r h1 h2 h3
  · rw [a 32 (by decide)] at h1; rw [gFr_ag a, gTo_ag a, wkF_ag a, gFar_ag a]; exact g4 x s h1 h2

set_option maxRecDepth 20000 in
theorem r_told {μ : Mem} (hW : GW μ) (c1 : μ 256 18 = μ 16 1) (c2 : μ 256 41 = μ 144 4) (c3 : μ 256 49 = μ 160 4) {u : Int} (hu : inR u) : SP mX12_told [vr 256, vi u] μ (fun w m => w = vi (cTold μ u) ∧ MWf μ m) := by
  refine SP_intro (ls := [vr 256, vi u]) (by decide +kernel) rfl rfl (Nat.le_of_ble_eq_true rfl) rfl (fun X hX => ?_)
  obtain ⟨hG, hln, hne, hcf⟩ := id hW
  obtain ⟨hL, hO, hV, hR⟩ := id hG
  obtain ⟨hL0, hL1, hL2, hL3, hL4⟩ := id hL
  obtain ⟨⟨r0, r1, r2⟩, hR1, hR2, hR3, hR4, hR5, hR6⟩ := id hR
  refine V_iloadn (pc := 0) dX12_told_0 rfl ?_
  by_cases hs0 : u = 0
  · refine V_tabIn (pc := 1) (off := 47) (tgt := 48) dX12_told_1 (by omega) (by omega) (by omega) (by rw [hs0]; decide) (by decide) ?_
    refine V_aloadn (pc := 48) dX12_told_48 rfl ?_
    refine V_geti (r := 0) (pc := 49) dX12_told_49 fX12_118 zk_256 ?_
    refine V_iret hX dX12_told_52 rfl ?_
    exact ⟨congrArg vi (by unfold cTold; (repeat (first | rw [if_pos (by omega)] | rw [if_neg (by omega)])); try omega), MWf.rf μ⟩
  by_cases hs1 : u = 1
  · refine V_tabIn (pc := 1) (off := 52) (tgt := 53) dX12_told_1 (by omega) (by omega) (by omega) (by rw [hs1]; decide) (by decide) ?_
    refine V_aloadn (pc := 53) dX12_told_53 rfl ?_
    refine V_geti (r := 0) (pc := 54) dX12_told_54 fX12_218 zk_256 ?_
    refine V_iret hX dX12_told_57 rfl ?_
    exact ⟨congrArg vi (by unfold cTold; (repeat (first | rw [if_pos (by omega)] | rw [if_neg (by omega)])); try omega), MWf.rf μ⟩
  by_cases hs2 : u = 2
  · refine V_tabIn (pc := 1) (off := 57) (tgt := 58) dX12_told_1 (by omega) (by omega) (by omega) (by rw [hs2]; decide) (by decide) ?_
    refine V_aloadn (pc := 58) dX12_told_58 rfl ?_
    refine V_geti (r := 0) (pc := 59) dX12_told_59 fX12_221 zk_256 ?_
    refine V_iret hX dX12_told_62 rfl ?_
    exact ⟨congrArg vi (by unfold cTold; (repeat (first | rw [if_pos (by omega)] | rw [if_neg (by omega)])); try omega), MWf.rf μ⟩
  by_cases hs3 : u = 3
  · refine V_tabIn (pc := 1) (off := 62) (tgt := 63) dX12_told_1 (by omega) (by omega) (by omega) (by rw [hs3]; decide) (by decide) ?_
    refine V_aloadn (pc := 63) dX12_told_63 rfl ?_
    refine V_geti (r := 0) (pc := 64) dX12_told_64 fX12_132 zk_256 ?_
    refine V_iret hX dX12_told_67 rfl ?_
    exact ⟨congrArg vi (by unfold cTold; (repeat (first | rw [if_pos (by omega)] | rw [if_neg (by omega)])); try omega), MWf.rf μ⟩
  by_cases hs4 : u = 4
  · refine V_tabIn (pc := 1) (off := 67) (tgt := 68) dX12_told_1 (by omega) (by omega) (by omega) (by rw [hs4]; decide) (by decide) ?_
    refine V_aloadn (pc := 68) dX12_told_68 rfl ?_
    refine V_geti (r := 0) (pc := 69) dX12_told_69 fX12_230 zk_256 ?_
    refine V_iret hX dX12_told_72 rfl ?_
    exact ⟨congrArg vi (by unfold cTold; (repeat (first | rw [if_pos (by omega)] | rw [if_neg (by omega)])); try omega), MWf.rf μ⟩
  by_cases hs5 : u = 5
  · refine V_tabIn (pc := 1) (off := 72) (tgt := 73) dX12_told_1 (by omega) (by omega) (by omega) (by rw [hs5]; decide) (by decide) ?_
    refine V_aloadn (pc := 73) dX12_told_73 rfl ?_
    refine V_geti (r := 0) (pc := 74) dX12_told_74 fX12_233 zk_256 ?_
    refine V_iret hX dX12_told_77 rfl ?_
    exact ⟨congrArg vi (by unfold cTold; (repeat (first | rw [if_pos (by omega)] | rw [if_neg (by omega)])); try omega), MWf.rf μ⟩
  by_cases hs6 : u = 6
  · refine V_tabIn (pc := 1) (off := 77) (tgt := 78) dX12_told_1 (by omega) (by omega) (by omega) (by rw [hs6]; decide) (by decide) ?_
    refine V_aloadn (pc := 78) dX12_told_78 rfl ?_
    refine V_cq0 (pc := 79) dX12_told_79 kX12_240 zk_256 (by decide) (Nat.le_of_ble_eq_true rfl) (r_costNow hG hln hne hcf) ?_
    intro w m hm
    obtain ⟨rfl, hm⟩ := hm
    show V X _ _ _ (vi (cost μ 0) :: _) m
    refine V_iret hX dX12_told_82 rfl ?_
    exact ⟨congrArg vi (by unfold cTold; (repeat (first | rw [if_pos (by omega)] | rw [if_neg (by omega)])); try omega), hm⟩
  by_cases hs7 : u = 7
  · refine V_tabIn (pc := 1) (off := 82) (tgt := 83) dX12_told_1 (by omega) (by omega) (by omega) (by rw [hs7]; decide) (by decide) ?_
    refine V_aloadn (pc := 83) dX12_told_83 rfl ?_
    refine V_cv0 (pc := 84) dX12_told_84 kX12_243 zk_256 (by decide) (Nat.le_of_ble_eq_true rfl) (r_turnedSet hG) rfl ?_
    refine V_iret hX dX12_told_87 rfl ?_
    exact ⟨congrArg vi (by unfold cTold; (repeat (first | rw [if_pos (by omega)] | rw [if_neg (by omega)])); try omega), MWf.rf μ⟩
  refine V_tabOut (pc := 1) (tgt := 88) dX12_told_1 (by omega) (by omega) (by decide) ?_
  refine V_ldc (pc := 88) (n := -1000000002) dX12_told_88 nX12_131 (by decide) ?_
  refine V_iret hX dX12_told_90 rfl ?_
  exact ⟨congrArg vi (by unfold cTold; (repeat (first | rw [if_pos (by omega)] | rw [if_neg (by omega)])); try omega), MWf.rf μ⟩

abbrev okU (μ : Mem) (s : Int) (k : Nat) : Prop := ∀ g : Nat, g < k → ¬ gFar μ 32 (gFr μ 32 g) (gTo μ 32 g) = -1 → (wkF μ (gFr μ 32 g) (gTo μ 32 g) s).1 = 1
theorem okU_s {μ : Mem} {s g : Int} {c : Prop} [Decidable c] (hg : 0 ≤ g) (h : okU μ s g.toNat) (hc : c ↔ (gFar μ 32 (gFr μ 32 g) (gTo μ 32 g) = -1 ∨ (wkF μ (gFr μ 32 g) (gTo μ 32 g) s).1 = 1)) : c ↔ okU μ s (g + 1).toNat := by
  rw [hc]
  constructor
  · intro h2 u hu hf
    by_cases e : u < g.toNat
    · exact h u e hf
    · have e2 : (u : Int) = g := by omega
      rw [e2] at hf ⊢
      rcases h2 with h2 | h2
      · exact absurd h2 hf
      · exact h2
  · intro h2
    by_cases hf : gFar μ 32 (gFr μ 32 g) (gTo μ 32 g) = -1
    · exact Or.inl hf
    · have h3 := h2 g.toNat (by omega)
      rw [show ((g.toNat : Nat) : Int) = g by omega] at h3
      exact Or.inr (h3 hf)

set_option maxRecDepth 20000 in
theorem l_mallCome {μ : Mem} (hW : GW μ) {s : Int} (hs : inR s) {X : ZX} (hX : isM X (fun w m => w = vi (bi (okS μ s)) ∧ MWf μ m)) : ∀ (n : Nat) (g : Int) (ν : Mem), (g + n = μ 32 2) → (0 ≤ g) → (MWf μ ν) → V X mX12_allCome 4 [vr 256, vi s, vi (bi (okU μ s g.toNat)), vi g] [] ν := by
  intro n
  induction n with
  | zero =>
    intro g ν h1 h2 hw
    obtain ⟨hG, hln, hne, hcf⟩ := id hW
    obtain ⟨hL, hO, hV, hR⟩ := id hG
    obtain ⟨hL0, hL1, hL2, hL3, hL4⟩ := id hL
    obtain ⟨⟨r0, r1, r2⟩, hR1, hR2, hR3, hR4, hR5, hR6⟩ := id hR
    have hmc := hw.mc
    have hGn := GI_mc hmc hG
    have hag := hmc.ag
    have rt : ν 256 5 = μ 32 2 := by rw [hmc.2.2 5 (by decide), r2]
    refine V_iloadn (pc := 4) dX12_allCome_4 rfl ?_
    refine V_aloadn (pc := 5) dX12_allCome_5 rfl ?_
    refine V_geti (r := 0) (pc := 6) dX12_allCome_6 fX12_221 zk_256 ?_
    rw [rt]
    refine V_icmp_ge (pc := 9) (tgt := 79) dX12_allCome_9 (by decide) (by omega) (by omega) (fun h9 => ?_) (fun h9 => ?_)
    · refine V_iloadn (pc := 79) dX12_allCome_79 rfl ?_
      refine V_zret hX dX12_allCome_80 rfl (bi_01 _) ?_
      first
        | exact ⟨congrArg vi (bi_cg (c := okU μ s g.toNat) (d := okS μ s) (by rw [show g.toNat = (μ 32 2).toNat by omega])), hw⟩
        | exact ⟨congrArg vi (by rw [bi_neg (c := okU μ s g.toNat) (by assumption), bi_neg (c := okS μ s) (fun h => (by assumption : ¬ okU μ s g.toNat) (fun u hu => h u (by omega)))]), hw⟩
    · exfalso; omega
  | succ n ih =>
    intro g ν h1 h2 hw
    obtain ⟨hG, hln, hne, hcf⟩ := id hW
    obtain ⟨hL, hO, hV, hR⟩ := id hG
    obtain ⟨hL0, hL1, hL2, hL3, hL4⟩ := id hL
    obtain ⟨⟨r0, r1, r2⟩, hR1, hR2, hR3, hR4, hR5, hR6⟩ := id hR
    have hmc := hw.mc
    have hGn := GI_mc hmc hG
    have hag := hmc.ag
    have rt : ν 256 5 = μ 32 2 := by rw [hmc.2.2 5 (by decide), r2]
    have tv := RM.trav hG (g := g) (by omega)
    have e263 : ν 263 g.toNat = gFr μ 32 g := by rw [hmc.2.1 263 (by decide) (by decide)]; exact tv.1
    have e264 : ν 264 g.toNat = gTo μ 32 g := by rw [hmc.2.1 264 (by decide) (by decide)]; exact tv.2.1
    have e32 : ν 32 0 = μ 32 0 := by rw [hag 32 (by decide)]
    have fa := RM.arm hG (p := gFr μ 32 g) (t := gTo μ 32 g) tv.2.2.2.1 tv.2.2.2.2.1
    have rr := wkF_rg μ hln (gFr μ 32 g) (gTo μ 32 g) s
    have nz := hne (gFr μ 32 g) (gTo μ 32 g) s tv.2.2.2.1 tv.2.2.2.2.1 hs
    refine V_iloadn (pc := 4) dX12_allCome_4 rfl ?_
    refine V_aloadn (pc := 5) dX12_allCome_5 rfl ?_
    refine V_geti (r := 0) (pc := 6) dX12_allCome_6 fX12_221 zk_256 ?_
    rw [rt]
    refine V_icmp_ge (pc := 9) (tgt := 79) dX12_allCome_9 (by decide) (by omega) (by omega) (fun h9 => ?_) (fun h9 => ?_)
    · exfalso; omega
    · refine V_iloadn (pc := 12) dX12_allCome_12 rfl ?_
      refine V_ifeq_b (pc := 13) (tgt := 79) dX12_allCome_13 (by decide) (fun h13 => ?_) (fun h13 => ?_)
      · refine V_iloadn (pc := 79) dX12_allCome_79 rfl ?_
        refine V_zret hX dX12_allCome_80 rfl (bi_01 _) ?_
        first
          | exact ⟨congrArg vi (bi_cg (c := okU μ s g.toNat) (d := okS μ s) (by rw [show g.toNat = (μ 32 2).toNat by omega])), hw⟩
          | exact ⟨congrArg vi (by rw [bi_neg (c := okU μ s g.toNat) (by assumption), bi_neg (c := okS μ s) (fun h => (by assumption : ¬ okU μ s g.toNat) (fun u hu => h u (by omega)))]), hw⟩
      · refine V_aloadn (pc := 16) dX12_allCome_16 rfl ?_
        refine V_aloadn (pc := 17) dX12_allCome_17 rfl ?_
        refine V_getr (pc := 18) dX12_allCome_18 fX12_19 zk_256 zr_256_6 ?_
        refine V_iloadn (pc := 21) dX12_allCome_21 rfl ?_
        refine V_iald (pc := 22) dX12_allCome_22 zk_263 (by omega) (by omega) (by decide) ?_
        rw [e263]
        refine V_aloadn (pc := 23) dX12_allCome_23 rfl ?_
        refine V_getr (pc := 24) dX12_allCome_24 fX12_22 zk_256 zr_256_7 ?_
        refine V_iloadn (pc := 27) dX12_allCome_27 rfl ?_
        refine V_iald (pc := 28) dX12_allCome_28 zk_264 (by omega) (by omega) (by decide) ?_
        rw [e264]
        refine V_iloadn (pc := 29) dX12_allCome_29 rfl ?_
        refine V_cq3 (pc := 30) dX12_allCome_30 kX12_286 zk_256 (by decide) (Nat.le_of_ble_eq_true rfl) (r_walkNow hGn (by rw [e32]; exact tv.2.2.2.1) (by rw [e32]; exact tv.2.2.2.2.1) hs (by rw [wkF_ag hag]; exact nz)) ?_
        intro w m hm
        obtain ⟨rfl, hm⟩ := hm
        rw [wkF_ag hag] at hm
        have hw2 := MWf.tr hw hm.1
        have hmc2 := hw2.mc
        have e263' : m 263 g.toNat = gFr μ 32 g := by rw [hmc2.2.1 263 (by decide) (by decide)]; exact tv.1
        have e264' : m 264 g.toNat = gTo μ 32 g := by rw [hmc2.2.1 264 (by decide) (by decide)]; exact tv.2.1
        have e265' : m 265 g.toNat = gHd μ 32 g := by rw [hmc2.2.1 265 (by decide) (by decide)]; exact tv.2.2.1
        have e268' : m 268 (9 * gFr μ 32 g + gTo μ 32 g).toNat = (if gFar μ 32 (gFr μ 32 g) (gTo μ 32 g) = -1 then 1000000 else gFar μ 32 (gFr μ 32 g) (gTo μ 32 g)) := by rw [hmc2.2.1 268 (by decide) (by decide)]; exact fa.2.1
        show V X _ _ _ _ m
        refine V_aloadn (pc := 33) dX12_allCome_33 rfl ?_
        refine V_getr (pc := 34) dX12_allCome_34 fX12_34 zk_256 zr_256_11 ?_
        refine V_bipush (pc := 37) dX12_allCome_37 (by decide +kernel) ?_
        refine V_aloadn (pc := 39) dX12_allCome_39 rfl ?_
        refine V_getr (pc := 40) dX12_allCome_40 fX12_19 zk_256 zr_256_6 ?_
        refine V_iloadn (pc := 43) dX12_allCome_43 rfl ?_
        refine V_iald (pc := 44) dX12_allCome_44 zk_263 (by omega) (by omega) (by decide) ?_
        rw [e263']
        refine V_imul (pc := 45) dX12_allCome_45 ?_
        refine V_aloadn (pc := 46) dX12_allCome_46 rfl ?_
        refine V_getr (pc := 47) dX12_allCome_47 fX12_22 zk_256 zr_256_7 ?_
        refine V_iloadn (pc := 50) dX12_allCome_50 rfl ?_
        refine V_iald (pc := 51) dX12_allCome_51 zk_264 (by omega) (by omega) (by decide) ?_
        rw [e264']
        refine V_iadd (pc := 52) dX12_allCome_52 ?_
        refine V_iald (pc := 53) dX12_allCome_53 zk_268 (by omega) (by omega) (by decide) ?_
        rw [e268']
        have hsp : inR (if gFar μ 32 (gFr μ 32 g) (gTo μ 32 g) = -1 then 1000000 else gFar μ 32 (gFr μ 32 g) (gTo μ 32 g)) := by split <;> omega
        have hsq : 1000000 ≤ (if gFar μ 32 (gFr μ 32 g) (gTo μ 32 g) = -1 then 1000000 else gFar μ 32 (gFr μ 32 g) (gTo μ 32 g)) ↔ gFar μ 32 (gFr μ 32 g) (gTo μ 32 g) = -1 := by split <;> omega
        refine V_ldc (pc := 54) (n := 1000000) dX12_allCome_54 nX12_236 (by decide) ?_
        refine V_icmp_ge (pc := 56) (tgt := 67) dX12_allCome_56 (by decide) (by omega) (by decide) (fun h56 => ?_) (fun h56 => ?_)
        · refine V_iconst (pc := 67) dX12_allCome_67 ?_
          refine V_goto (pc := 68) (tgt := 72) dX12_allCome_68 (by decide) ?_
          refine V_istore_2 (pc := 72) dX12_allCome_72 (by decide) rfl ?_
          refine V_iinc_3 (pc := 73) dX12_allCome_73 (by decide) rfl ?_
          refine V_goto (pc := 76) (tgt := 4) dX12_allCome_76 (by decide) ?_
          first
            | (have z := ih (g + 1) m (by omega) (by omega) hw2
               rw [bi_pos (c := okU μ s (g + 1).toNat) ((okU_s (c := gFar μ 32 (gFr μ 32 g) (gTo μ 32 g) = -1 ∨ (wkF μ (gFr μ 32 g) (gTo μ 32 g) s).1 = 1) h2 (by assumption) Iff.rfl).mp (by first | exact Or.inl (hsq.mp (by assumption)) | exact Or.inr (by omega)))] at z
               exact z)
            | (have z := ih (g + 1) m (by omega) (by omega) hw2
               rw [bi_neg (c := okU μ s (g + 1).toNat) (fun q => by
                 rcases (okU_s (c := gFar μ 32 (gFr μ 32 g) (gTo μ 32 g) = -1 ∨ (wkF μ (gFr μ 32 g) (gTo μ 32 g) s).1 = 1) h2 (by assumption) Iff.rfl).mpr q with q | q
                 · exact absurd (hsq.mpr q) (by assumption)
                 · omega)] at z
               exact z)
        · refine V_aloadn (pc := 59) dX12_allCome_59 rfl ?_
          refine V_geti (r := 0) (pc := 60) dX12_allCome_60 fX12_283 zk_256 ?_
          rw [hm.2.1]
          refine V_iconst (pc := 63) dX12_allCome_63 ?_
          refine V_icmp_ne (pc := 64) (tgt := 71) dX12_allCome_64 (by decide) (by omega) (by decide) (fun h64 => ?_) (fun h64 => ?_)
          · refine V_iconst (pc := 71) dX12_allCome_71 ?_
            refine V_istore_2 (pc := 72) dX12_allCome_72 (by decide) rfl ?_
            refine V_iinc_3 (pc := 73) dX12_allCome_73 (by decide) rfl ?_
            refine V_goto (pc := 76) (tgt := 4) dX12_allCome_76 (by decide) ?_
            first
              | (have z := ih (g + 1) m (by omega) (by omega) hw2
                 rw [bi_pos (c := okU μ s (g + 1).toNat) ((okU_s (c := gFar μ 32 (gFr μ 32 g) (gTo μ 32 g) = -1 ∨ (wkF μ (gFr μ 32 g) (gTo μ 32 g) s).1 = 1) h2 (by assumption) Iff.rfl).mp (by first | exact Or.inl (hsq.mp (by assumption)) | exact Or.inr (by omega)))] at z
                 exact z)
              | (have z := ih (g + 1) m (by omega) (by omega) hw2
                 rw [bi_neg (c := okU μ s (g + 1).toNat) (fun q => by
                   rcases (okU_s (c := gFar μ 32 (gFr μ 32 g) (gTo μ 32 g) = -1 ∨ (wkF μ (gFr μ 32 g) (gTo μ 32 g) s).1 = 1) h2 (by assumption) Iff.rfl).mpr q with q | q
                   · exact absurd (hsq.mpr q) (by assumption)
                   · omega)] at z
                 exact z)
          · refine V_iconst (pc := 67) dX12_allCome_67 ?_
            refine V_goto (pc := 68) (tgt := 72) dX12_allCome_68 (by decide) ?_
            refine V_istore_2 (pc := 72) dX12_allCome_72 (by decide) rfl ?_
            refine V_iinc_3 (pc := 73) dX12_allCome_73 (by decide) rfl ?_
            refine V_goto (pc := 76) (tgt := 4) dX12_allCome_76 (by decide) ?_
            first
              | (have z := ih (g + 1) m (by omega) (by omega) hw2
                 rw [bi_pos (c := okU μ s (g + 1).toNat) ((okU_s (c := gFar μ 32 (gFr μ 32 g) (gTo μ 32 g) = -1 ∨ (wkF μ (gFr μ 32 g) (gTo μ 32 g) s).1 = 1) h2 (by assumption) Iff.rfl).mp (by first | exact Or.inl (hsq.mp (by assumption)) | exact Or.inr (by omega)))] at z
                 exact z)
              | (have z := ih (g + 1) m (by omega) (by omega) hw2
                 rw [bi_neg (c := okU μ s (g + 1).toNat) (fun q => by
                   rcases (okU_s (c := gFar μ 32 (gFr μ 32 g) (gTo μ 32 g) = -1 ∨ (wkF μ (gFr μ 32 g) (gTo μ 32 g) s).1 = 1) h2 (by assumption) Iff.rfl).mpr q with q | q
                   · exact absurd (hsq.mpr q) (by assumption)
                   · omega)] at z
                 exact z)

set_option maxRecDepth 20000 in
theorem r_allCome {μ : Mem} (hW : GW μ) {s : Int} (hs : inR s) : SP mX12_allCome [vr 256, vi s] μ (fun w m => w = vi (bi (okS μ s)) ∧ MWf μ m) := by
  refine SP_intro (ls := [vr 256, vi s, un, un]) (by decide +kernel) rfl rfl (Nat.le_of_ble_eq_true rfl) rfl (fun X hX => ?_)
  obtain ⟨hG, hln, hne, hcf⟩ := id hW
  obtain ⟨hL, hO, hV, hR⟩ := id hG
  obtain ⟨hL0, hL1, hL2, hL3, hL4⟩ := id hL
  obtain ⟨⟨r0, r1, r2⟩, hR1, hR2, hR3, hR4, hR5, hR6⟩ := id hR
  refine V_iconst (pc := 0) dX12_allCome_0 ?_
  refine V_istore_2 (pc := 1) dX12_allCome_1 (by decide) rfl ?_
  refine V_iconst (pc := 2) dX12_allCome_2 ?_
  refine V_istore_3 (pc := 3) dX12_allCome_3 (by decide) rfl ?_
  rw [show (1 : Int) = bi (okU μ s (0 : Int).toNat) from (bi_pos (fun u hu => absurd hu (by simp))).symm]
  exact l_mallCome hW hs hX (μ 32 2).toNat 0 μ (by omega) (by omega) (MWf.rf μ)

def mfw (μ : Mem) : Nat → Int → Int → Int
  | 0, _, f => f
  | n + 1, s, f => mfw μ n (s + 1) (if (f < 0 ∨ bitsF s < bitsF f) ∧ okS μ s then s else f)
theorem mfw_s {μ : Mem} {n : Nat} {s f : Int} : mfw μ (n + 1) s f = mfw μ n (s + 1) (if (f < 0 ∨ bitsF s < bitsF f) ∧ okS μ s then s else f) := rfl

theorem ishl_9 {k : Int} (h : 0 ≤ k ∧ k ≤ 9) : ishl 1 k ≤ 512 := by
  obtain ⟨n, rfl⟩ := Int.eq_ofNat_of_zero_le h.1
  have h2 : ∀ k : Nat, k ≤ 9 → (2 : Int) ^ k ≤ 512 := by decide +kernel
  rw [ishl_1 n (by omega)]
  exact h2 n (by omega)

set_option maxRecDepth 20000 in
theorem l_mfewest {μ : Mem} (hW : GW μ) {R : Int} {X : ZX} (hX : isM X (fun w m => w = vi R ∧ MWf μ m)) : ∀ (n : Nat) (s f : Int) (y3 : AV) (ν : Mem), (s + n = ishl 1 (μ 32 0)) → (0 ≤ s) → (-1 ≤ f ∧ f < 512) → (MWf μ ν) → (mfw μ n s f = R) → V X mX12_fewest 4 [vr 256, vi f, vi s, y3] [] ν := by
  intro n
  induction n with
  | zero =>
    intro s f y3 ν h1 h2 h3 hw hR0
    obtain ⟨hG, hln, hne, hcf⟩ := id hW
    obtain ⟨hL, hO, hV, hR⟩ := id hG
    obtain ⟨hL0, hL1, hL2, hL3, hL4⟩ := id hL
    obtain ⟨⟨r0, r1, r2⟩, hR1, hR2, hR3, hR4, hR5, hR6⟩ := id hR
    have hmc := hw.mc
    have hag := hmc.ag
    have e0 : ν 256 0 = μ 32 0 := by rw [hmc.2.2 0 (by decide), r0]
    have gp := ishl_1r (k := μ 32 0) (by omega)
    have g9 : ishl 1 (μ 32 0) ≤ 512 := ishl_9 (by omega)
    refine V_iloadn (pc := 4) dX12_fewest_4 rfl ?_
    refine V_iconst (pc := 5) dX12_fewest_5 ?_
    refine V_aloadn (pc := 6) dX12_fewest_6 rfl ?_
    refine V_geti (r := 0) (pc := 7) dX12_fewest_7 fX12_118 zk_256 ?_
    rw [e0]
    refine V_ishl (pc := 10) dX12_fewest_10 ?_
    refine V_icmp_ge (pc := 11) (tgt := 59) dX12_fewest_11 (by decide) (by omega) (by omega) (fun h11 => ?_) (fun h11 => ?_)
    · refine V_iloadn (pc := 59) dX12_fewest_59 rfl ?_
      refine V_iret hX dX12_fewest_60 rfl ?_
      exact ⟨congrArg vi hR0, hw⟩
    · exfalso; omega
  | succ n ih =>
    intro s f y3 ν h1 h2 h3 hw hR0
    obtain ⟨hG, hln, hne, hcf⟩ := id hW
    obtain ⟨hL, hO, hV, hR⟩ := id hG
    obtain ⟨hL0, hL1, hL2, hL3, hL4⟩ := id hL
    obtain ⟨⟨r0, r1, r2⟩, hR1, hR2, hR3, hR4, hR5, hR6⟩ := id hR
    have hmc := hw.mc
    have hag := hmc.ag
    have e0 : ν 256 0 = μ 32 0 := by rw [hmc.2.2 0 (by decide), r0]
    have gp := ishl_1r (k := μ 32 0) (by omega)
    have g9 : ishl 1 (μ 32 0) ≤ 512 := ishl_9 (by omega)
    have b1 := bitsF_rg' (s := s) (by omega)
    have b2 : 0 ≤ f → 0 ≤ bitsF f ∧ bitsF f ≤ 9 := fun z => bitsF_rg' (s := f) (by omega)
    refine V_iloadn (pc := 4) dX12_fewest_4 rfl ?_
    refine V_iconst (pc := 5) dX12_fewest_5 ?_
    refine V_aloadn (pc := 6) dX12_fewest_6 rfl ?_
    refine V_geti (r := 0) (pc := 7) dX12_fewest_7 fX12_118 zk_256 ?_
    rw [e0]
    refine V_ishl (pc := 10) dX12_fewest_10 ?_
    refine V_icmp_ge (pc := 11) (tgt := 59) dX12_fewest_11 (by decide) (by omega) (by omega) (fun h11 => ?_) (fun h11 => ?_)
    · exfalso; omega
    · refine V_iloadn (pc := 14) dX12_fewest_14 rfl ?_
      refine V_if_lt (pc := 15) (tgt := 29) dX12_fewest_15 (by decide) (by omega) (fun h15 => ?_) (fun h15 => ?_)
      · refine V_iconst (pc := 29) dX12_fewest_29 ?_
        refine V_goto (pc := 30) (tgt := 34) dX12_fewest_30 (by decide) ?_
        refine V_istore_3 (pc := 34) dX12_fewest_34 (by decide) rfl ?_
        refine V_iloadn (pc := 35) dX12_fewest_35 rfl ?_
        refine V_if_eq (pc := 36) (tgt := 51) dX12_fewest_36 (by decide) (by omega) (fun h36 => ?_) (fun h36 => ?_)
        · refine V_iloadn (pc := 51) dX12_fewest_51 rfl ?_
          refine V_istore_1 (pc := 52) dX12_fewest_52 (by decide) rfl ?_
          refine V_iinc_2 (pc := 53) dX12_fewest_53 (by decide) rfl ?_
          refine V_goto (pc := 56) (tgt := 4) dX12_fewest_56 (by decide) ?_
          first
            | exact ih _ _ _ _ (by omega) (by omega) (by omega) hw2 (by rw [← hR0, mfw_s, if_pos ⟨by omega, by assumption⟩])
            | exact ih _ _ _ _ (by omega) (by omega) (by omega) hw2 (by rw [← hR0, mfw_s, if_neg (fun z => absurd z.2 (by assumption))])
            | exact ih _ _ _ _ (by omega) (by omega) (by omega) hw (by rw [← hR0, mfw_s, if_neg (fun z => by have := z.1; omega)])
        · refine V_aloadn (pc := 39) dX12_fewest_39 rfl ?_
          refine V_iloadn (pc := 40) dX12_fewest_40 rfl ?_
          refine V_cq1 (pc := 41) dX12_fewest_41 kX12_306 zk_256 (by decide) (Nat.le_of_ble_eq_true rfl) (r_allCome (GW_mc hmc hW) (by omega)) ?_
          intro w m hm
          obtain ⟨rfl, hm⟩ := hm
          have hw2 := MWf.tr hw hm
          rw [bi_cg (okS_ag hag s)]
          show V X _ _ _ (vi (bi (okS μ s)) :: _) m
          refine V_ifeq_b (pc := 44) (tgt := 51) dX12_fewest_44 (by decide) (fun h44 => ?_) (fun h44 => ?_)
          · refine V_iloadn (pc := 51) dX12_fewest_51 rfl ?_
            refine V_istore_1 (pc := 52) dX12_fewest_52 (by decide) rfl ?_
            refine V_iinc_2 (pc := 53) dX12_fewest_53 (by decide) rfl ?_
            refine V_goto (pc := 56) (tgt := 4) dX12_fewest_56 (by decide) ?_
            first
              | exact ih _ _ _ _ (by omega) (by omega) (by omega) hw2 (by rw [← hR0, mfw_s, if_pos ⟨by omega, by assumption⟩])
              | exact ih _ _ _ _ (by omega) (by omega) (by omega) hw2 (by rw [← hR0, mfw_s, if_neg (fun z => absurd z.2 (by assumption))])
              | exact ih _ _ _ _ (by omega) (by omega) (by omega) hw (by rw [← hR0, mfw_s, if_neg (fun z => by have := z.1; omega)])
          · refine V_iloadn (pc := 47) dX12_fewest_47 rfl ?_
            refine V_goto (pc := 48) (tgt := 52) dX12_fewest_48 (by decide) ?_
            refine V_istore_1 (pc := 52) dX12_fewest_52 (by decide) rfl ?_
            refine V_iinc_2 (pc := 53) dX12_fewest_53 (by decide) rfl ?_
            refine V_goto (pc := 56) (tgt := 4) dX12_fewest_56 (by decide) ?_
            first
              | exact ih _ _ _ _ (by omega) (by omega) (by omega) hw2 (by rw [← hR0, mfw_s, if_pos ⟨by omega, by assumption⟩])
              | exact ih _ _ _ _ (by omega) (by omega) (by omega) hw2 (by rw [← hR0, mfw_s, if_neg (fun z => absurd z.2 (by assumption))])
              | exact ih _ _ _ _ (by omega) (by omega) (by omega) hw (by rw [← hR0, mfw_s, if_neg (fun z => by have := z.1; omega)])
      · refine V_iloadn (pc := 18) dX12_fewest_18 rfl ?_
        refine V_cs1 (pc := 19) dX12_fewest_19 kX12_299 (by decide) (Nat.le_of_ble_eq_true rfl) (r_bits) rfl ?_
        refine V_iloadn (pc := 22) dX12_fewest_22 rfl ?_
        refine V_cs1 (pc := 23) dX12_fewest_23 kX12_299 (by decide) (Nat.le_of_ble_eq_true rfl) (r_bits) rfl ?_
        have b3 := b2 (by omega)
        refine V_icmp_ge (pc := 26) (tgt := 33) dX12_fewest_26 (by decide) (by omega) (by omega) (fun h26 => ?_) (fun h26 => ?_)
        · refine V_iconst (pc := 33) dX12_fewest_33 ?_
          refine V_istore_3 (pc := 34) dX12_fewest_34 (by decide) rfl ?_
          refine V_iloadn (pc := 35) dX12_fewest_35 rfl ?_
          refine V_if_eq (pc := 36) (tgt := 51) dX12_fewest_36 (by decide) (by omega) (fun h36 => ?_) (fun h36 => ?_)
          · refine V_iloadn (pc := 51) dX12_fewest_51 rfl ?_
            refine V_istore_1 (pc := 52) dX12_fewest_52 (by decide) rfl ?_
            refine V_iinc_2 (pc := 53) dX12_fewest_53 (by decide) rfl ?_
            refine V_goto (pc := 56) (tgt := 4) dX12_fewest_56 (by decide) ?_
            first
              | exact ih _ _ _ _ (by omega) (by omega) (by omega) hw2 (by rw [← hR0, mfw_s, if_pos ⟨by omega, by assumption⟩])
              | exact ih _ _ _ _ (by omega) (by omega) (by omega) hw2 (by rw [← hR0, mfw_s, if_neg (fun z => absurd z.2 (by assumption))])
              | exact ih _ _ _ _ (by omega) (by omega) (by omega) hw (by rw [← hR0, mfw_s, if_neg (fun z => by have := z.1; omega)])
          · refine V_aloadn (pc := 39) dX12_fewest_39 rfl ?_
            refine V_iloadn (pc := 40) dX12_fewest_40 rfl ?_
            refine V_cq1 (pc := 41) dX12_fewest_41 kX12_306 zk_256 (by decide) (Nat.le_of_ble_eq_true rfl) (r_allCome (GW_mc hmc hW) (by omega)) ?_
            intro w m hm
            obtain ⟨rfl, hm⟩ := hm
            have hw2 := MWf.tr hw hm
            rw [bi_cg (okS_ag hag s)]
            show V X _ _ _ (vi (bi (okS μ s)) :: _) m
            refine V_ifeq_b (pc := 44) (tgt := 51) dX12_fewest_44 (by decide) (fun h44 => ?_) (fun h44 => ?_)
            · refine V_iloadn (pc := 51) dX12_fewest_51 rfl ?_
              refine V_istore_1 (pc := 52) dX12_fewest_52 (by decide) rfl ?_
              refine V_iinc_2 (pc := 53) dX12_fewest_53 (by decide) rfl ?_
              refine V_goto (pc := 56) (tgt := 4) dX12_fewest_56 (by decide) ?_
              first
                | exact ih _ _ _ _ (by omega) (by omega) (by omega) hw2 (by rw [← hR0, mfw_s, if_pos ⟨by omega, by assumption⟩])
                | exact ih _ _ _ _ (by omega) (by omega) (by omega) hw2 (by rw [← hR0, mfw_s, if_neg (fun z => absurd z.2 (by assumption))])
                | exact ih _ _ _ _ (by omega) (by omega) (by omega) hw (by rw [← hR0, mfw_s, if_neg (fun z => by have := z.1; omega)])
            · refine V_iloadn (pc := 47) dX12_fewest_47 rfl ?_
              refine V_goto (pc := 48) (tgt := 52) dX12_fewest_48 (by decide) ?_
              refine V_istore_1 (pc := 52) dX12_fewest_52 (by decide) rfl ?_
              refine V_iinc_2 (pc := 53) dX12_fewest_53 (by decide) rfl ?_
              refine V_goto (pc := 56) (tgt := 4) dX12_fewest_56 (by decide) ?_
              first
                | exact ih _ _ _ _ (by omega) (by omega) (by omega) hw2 (by rw [← hR0, mfw_s, if_pos ⟨by omega, by assumption⟩])
                | exact ih _ _ _ _ (by omega) (by omega) (by omega) hw2 (by rw [← hR0, mfw_s, if_neg (fun z => absurd z.2 (by assumption))])
                | exact ih _ _ _ _ (by omega) (by omega) (by omega) hw (by rw [← hR0, mfw_s, if_neg (fun z => by have := z.1; omega)])
        · refine V_iconst (pc := 29) dX12_fewest_29 ?_
          refine V_goto (pc := 30) (tgt := 34) dX12_fewest_30 (by decide) ?_
          refine V_istore_3 (pc := 34) dX12_fewest_34 (by decide) rfl ?_
          refine V_iloadn (pc := 35) dX12_fewest_35 rfl ?_
          refine V_if_eq (pc := 36) (tgt := 51) dX12_fewest_36 (by decide) (by omega) (fun h36 => ?_) (fun h36 => ?_)
          · refine V_iloadn (pc := 51) dX12_fewest_51 rfl ?_
            refine V_istore_1 (pc := 52) dX12_fewest_52 (by decide) rfl ?_
            refine V_iinc_2 (pc := 53) dX12_fewest_53 (by decide) rfl ?_
            refine V_goto (pc := 56) (tgt := 4) dX12_fewest_56 (by decide) ?_
            first
              | exact ih _ _ _ _ (by omega) (by omega) (by omega) hw2 (by rw [← hR0, mfw_s, if_pos ⟨by omega, by assumption⟩])
              | exact ih _ _ _ _ (by omega) (by omega) (by omega) hw2 (by rw [← hR0, mfw_s, if_neg (fun z => absurd z.2 (by assumption))])
              | exact ih _ _ _ _ (by omega) (by omega) (by omega) hw (by rw [← hR0, mfw_s, if_neg (fun z => by have := z.1; omega)])
          · refine V_aloadn (pc := 39) dX12_fewest_39 rfl ?_
            refine V_iloadn (pc := 40) dX12_fewest_40 rfl ?_
            refine V_cq1 (pc := 41) dX12_fewest_41 kX12_306 zk_256 (by decide) (Nat.le_of_ble_eq_true rfl) (r_allCome (GW_mc hmc hW) (by omega)) ?_
            intro w m hm
            obtain ⟨rfl, hm⟩ := hm
            have hw2 := MWf.tr hw hm
            rw [bi_cg (okS_ag hag s)]
            show V X _ _ _ (vi (bi (okS μ s)) :: _) m
            refine V_ifeq_b (pc := 44) (tgt := 51) dX12_fewest_44 (by decide) (fun h44 => ?_) (fun h44 => ?_)
            · refine V_iloadn (pc := 51) dX12_fewest_51 rfl ?_
              refine V_istore_1 (pc := 52) dX12_fewest_52 (by decide) rfl ?_
              refine V_iinc_2 (pc := 53) dX12_fewest_53 (by decide) rfl ?_
              refine V_goto (pc := 56) (tgt := 4) dX12_fewest_56 (by decide) ?_
              first
                | exact ih _ _ _ _ (by omega) (by omega) (by omega) hw2 (by rw [← hR0, mfw_s, if_pos ⟨by omega, by assumption⟩])
                | exact ih _ _ _ _ (by omega) (by omega) (by omega) hw2 (by rw [← hR0, mfw_s, if_neg (fun z => absurd z.2 (by assumption))])
                | exact ih _ _ _ _ (by omega) (by omega) (by omega) hw (by rw [← hR0, mfw_s, if_neg (fun z => by have := z.1; omega)])
            · refine V_iloadn (pc := 47) dX12_fewest_47 rfl ?_
              refine V_goto (pc := 48) (tgt := 52) dX12_fewest_48 (by decide) ?_
              refine V_istore_1 (pc := 52) dX12_fewest_52 (by decide) rfl ?_
              refine V_iinc_2 (pc := 53) dX12_fewest_53 (by decide) rfl ?_
              refine V_goto (pc := 56) (tgt := 4) dX12_fewest_56 (by decide) ?_
              first
                | exact ih _ _ _ _ (by omega) (by omega) (by omega) hw2 (by rw [← hR0, mfw_s, if_pos ⟨by omega, by assumption⟩])
                | exact ih _ _ _ _ (by omega) (by omega) (by omega) hw2 (by rw [← hR0, mfw_s, if_neg (fun z => absurd z.2 (by assumption))])
                | exact ih _ _ _ _ (by omega) (by omega) (by omega) hw (by rw [← hR0, mfw_s, if_neg (fun z => by have := z.1; omega)])

set_option maxRecDepth 20000 in
theorem r_fewest {μ : Mem} (hW : GW μ) : SP mX12_fewest [vr 256] μ (fun w m => w = vi (mfw μ (ishl 1 (μ 32 0)).toNat 0 (-1)) ∧ MWf μ m) := by
  refine SP_intro (ls := [vr 256, un, un, un]) (by decide +kernel) rfl rfl (Nat.le_of_ble_eq_true rfl) rfl (fun X hX => ?_)
  obtain ⟨hG, hln, hne, hcf⟩ := id hW
  obtain ⟨hL, hO, hV, hR⟩ := id hG
  obtain ⟨hL0, hL1, hL2, hL3, hL4⟩ := id hL
  obtain ⟨⟨r0, r1, r2⟩, hR1, hR2, hR3, hR4, hR5, hR6⟩ := id hR
  have gp := ishl_1r (k := μ 32 0) (by omega)
  refine V_iconst (pc := 0) dX12_fewest_0 ?_
  refine V_istore_1 (pc := 1) dX12_fewest_1 (by decide) rfl ?_
  refine V_iconst (pc := 2) dX12_fewest_2 ?_
  refine V_istore_2 (pc := 3) dX12_fewest_3 (by decide) rfl ?_
  exact l_mfewest hW hX (ishl 1 (μ 32 0)).toNat 0 (-1) _ μ (by omega) (by omega) (by omega) (MWf.rf μ) rfl

set_option maxRecDepth 20000 in
theorem l_mbest {μ : Mem} (hW : GW μ) (hco : ∀ s, inR (cost μ s)) {u : Int} (hu : 0 ≤ u ∧ u ≤ 1) {X : ZX} {R : Int × Int} (hX : isM X (fun w m => w = vi (if u = 0 then R.1 else R.2) ∧ MWf μ m)) : ∀ (n : Nat) (p pl le : Int) (y5 y6 : AV) (ν : Mem), (p + n = μ 32 0) → (0 ≤ p) → (-1 ≤ pl ∧ pl < 9) → (inR le) → (MWf μ ν) → (bst μ n p pl le = R) → V X mX12_best 20 [vr 256, vi u, vi pl, vi le, vi p, y5, y6] [] ν := by
  intro n
  induction n with
  | zero =>
    intro p pl le y5 y6 ν h1 h2 h3 h4 hw hR0
    obtain ⟨hG, hln, hne, hcf⟩ := id hW
    obtain ⟨hL, hO, hV, hR⟩ := id hG
    obtain ⟨hL0, hL1, hL2, hL3, hL4⟩ := id hL
    obtain ⟨⟨r0, r1, r2⟩, hR1, hR2, hR3, hR4, hR5, hR6⟩ := id hR
    have hmc := hw.mc
    have hag := hmc.ag
    obtain ⟨hGn, hlnn, hnen, hcfn⟩ := GW_mc hmc hW
    have e0 : ν 256 0 = μ 32 0 := by rw [hmc.2.2 0 (by decide), r0]
    have rc := hco (ishl 1 p)
    subst hR0
    refine V_iload (pc := 20) dX12_best_20 rfl ?_
    refine V_aloadn (pc := 22) dX12_best_22 rfl ?_
    refine V_geti (r := 0) (pc := 23) dX12_best_23 fX12_118 zk_256 ?_
    rw [e0]
    refine V_icmp_ge (pc := 26) (tgt := 86) dX12_best_26 (by decide) (by omega) (by omega) (fun h26 => ?_) (fun h26 => ?_)
    · refine V_iloadn (pc := 86) dX12_best_86 rfl ?_
      refine V_if_ne (pc := 87) (tgt := 94) dX12_best_87 (by decide) (by omega) (fun h87 => ?_) (fun h87 => ?_)
      · refine V_iloadn (pc := 94) dX12_best_94 rfl ?_
        refine V_iret hX dX12_best_95 rfl ?_
        exact ⟨congrArg vi (by first | exact (if_pos (show u = 0 by omega)).symm | exact (if_neg (show ¬ u = 0 by omega)).symm), hw⟩
      · refine V_iloadn (pc := 90) dX12_best_90 rfl ?_
        refine V_goto (pc := 91) (tgt := 95) dX12_best_91 (by decide) ?_
        refine V_iret hX dX12_best_95 rfl ?_
        exact ⟨congrArg vi (by first | exact (if_pos (show u = 0 by omega)).symm | exact (if_neg (show ¬ u = 0 by omega)).symm), hw⟩
    · exfalso; omega
  | succ n ih =>
    intro p pl le y5 y6 ν h1 h2 h3 h4 hw hR0
    obtain ⟨hG, hln, hne, hcf⟩ := id hW
    obtain ⟨hL, hO, hV, hR⟩ := id hG
    obtain ⟨hL0, hL1, hL2, hL3, hL4⟩ := id hL
    obtain ⟨⟨r0, r1, r2⟩, hR1, hR2, hR3, hR4, hR5, hR6⟩ := id hR
    have hmc := hw.mc
    have hag := hmc.ag
    obtain ⟨hGn, hlnn, hnen, hcfn⟩ := GW_mc hmc hW
    have e0 : ν 256 0 = μ 32 0 := by rw [hmc.2.2 0 (by decide), r0]
    have rc := hco (ishl 1 p)
    refine V_iload (pc := 20) dX12_best_20 rfl ?_
    refine V_aloadn (pc := 22) dX12_best_22 rfl ?_
    refine V_geti (r := 0) (pc := 23) dX12_best_23 fX12_118 zk_256 ?_
    rw [e0]
    refine V_icmp_ge (pc := 26) (tgt := 86) dX12_best_26 (by decide) (by omega) (by omega) (fun h26 => ?_) (fun h26 => ?_)
    · exfalso; omega
    · refine V_aloadn (pc := 29) dX12_best_29 rfl ?_
      refine V_iconst (pc := 30) dX12_best_30 ?_
      refine V_iload (pc := 31) dX12_best_31 rfl ?_
      refine V_ishl (pc := 33) dX12_best_33 ?_
      refine V_cq1 (pc := 34) dX12_best_34 kX12_290 zk_256 (by decide) (Nat.le_of_ble_eq_true rfl) (r_costBy hGn hlnn hnen hcfn (zi_rg _)) ?_
      intro w m hm
      obtain ⟨rfl, hm⟩ := hm
      have hw2 := MWf.tr hw hm
      rw [cost_ag hag]
      show V X _ _ _ (vi (cost μ (ishl 1 p)) :: _) m
      refine V_istore_5 (pc := 37) dX12_best_37 (by decide) rfl ?_
      refine V_iloadn (pc := 39) dX12_best_39 rfl ?_
      refine V_if_lt (pc := 40) (tgt := 49) dX12_best_40 (by decide) (by omega) (fun h40 => ?_) (fun h40 => ?_)
      · refine V_iconst (pc := 49) dX12_best_49 ?_
        refine V_goto (pc := 50) (tgt := 54) dX12_best_50 (by decide) ?_
        refine V_istore_6 (pc := 54) dX12_best_54 (by decide) rfl ?_
        refine V_iload (pc := 56) dX12_best_56 rfl ?_
        refine V_if_eq (pc := 58) (tgt := 66) dX12_best_58 (by decide) (by omega) (fun h58 => ?_) (fun h58 => ?_)
        · refine V_iloadn (pc := 66) dX12_best_66 rfl ?_
          refine V_istore_2 (pc := 67) dX12_best_67 (by decide) rfl ?_
          refine V_iload (pc := 68) dX12_best_68 rfl ?_
          refine V_if_eq (pc := 70) (tgt := 78) dX12_best_70 (by decide) (by omega) (fun h70 => ?_) (fun h70 => ?_)
          · refine V_iloadn (pc := 78) dX12_best_78 rfl ?_
            refine V_istore_3 (pc := 79) dX12_best_79 (by decide) rfl ?_
            refine V_iinc_4 (pc := 80) dX12_best_80 (by decide) rfl ?_
            refine V_goto (pc := 83) (tgt := 20) dX12_best_83 (by decide) ?_
            first
              | (exfalso; omega)
              | exact ih _ _ _ _ _ _ (by omega) (by omega) (by omega) (by omega) hw2 (by rw [← hR0, bst_s]; first | rw [if_pos (by omega)] | rw [if_neg (by omega)])
          · refine V_iload (pc := 73) dX12_best_73 rfl ?_
            refine V_goto (pc := 75) (tgt := 79) dX12_best_75 (by decide) ?_
            refine V_istore_3 (pc := 79) dX12_best_79 (by decide) rfl ?_
            refine V_iinc_4 (pc := 80) dX12_best_80 (by decide) rfl ?_
            refine V_goto (pc := 83) (tgt := 20) dX12_best_83 (by decide) ?_
            first
              | (exfalso; omega)
              | exact ih _ _ _ _ _ _ (by omega) (by omega) (by omega) (by omega) hw2 (by rw [← hR0, bst_s]; first | rw [if_pos (by omega)] | rw [if_neg (by omega)])
        · refine V_iload (pc := 61) dX12_best_61 rfl ?_
          refine V_goto (pc := 63) (tgt := 67) dX12_best_63 (by decide) ?_
          refine V_istore_2 (pc := 67) dX12_best_67 (by decide) rfl ?_
          refine V_iload (pc := 68) dX12_best_68 rfl ?_
          refine V_if_eq (pc := 70) (tgt := 78) dX12_best_70 (by decide) (by omega) (fun h70 => ?_) (fun h70 => ?_)
          · refine V_iloadn (pc := 78) dX12_best_78 rfl ?_
            refine V_istore_3 (pc := 79) dX12_best_79 (by decide) rfl ?_
            refine V_iinc_4 (pc := 80) dX12_best_80 (by decide) rfl ?_
            refine V_goto (pc := 83) (tgt := 20) dX12_best_83 (by decide) ?_
            first
              | (exfalso; omega)
              | exact ih _ _ _ _ _ _ (by omega) (by omega) (by omega) (by omega) hw2 (by rw [← hR0, bst_s]; first | rw [if_pos (by omega)] | rw [if_neg (by omega)])
          · refine V_iload (pc := 73) dX12_best_73 rfl ?_
            refine V_goto (pc := 75) (tgt := 79) dX12_best_75 (by decide) ?_
            refine V_istore_3 (pc := 79) dX12_best_79 (by decide) rfl ?_
            refine V_iinc_4 (pc := 80) dX12_best_80 (by decide) rfl ?_
            refine V_goto (pc := 83) (tgt := 20) dX12_best_83 (by decide) ?_
            first
              | (exfalso; omega)
              | exact ih _ _ _ _ _ _ (by omega) (by omega) (by omega) (by omega) hw2 (by rw [← hR0, bst_s]; first | rw [if_pos (by omega)] | rw [if_neg (by omega)])
      · refine V_iload (pc := 43) dX12_best_43 rfl ?_
        refine V_iloadn (pc := 45) dX12_best_45 rfl ?_
        refine V_icmp_ge (pc := 46) (tgt := 53) dX12_best_46 (by decide) (by omega) (by omega) (fun h46 => ?_) (fun h46 => ?_)
        · refine V_iconst (pc := 53) dX12_best_53 ?_
          refine V_istore_6 (pc := 54) dX12_best_54 (by decide) rfl ?_
          refine V_iload (pc := 56) dX12_best_56 rfl ?_
          refine V_if_eq (pc := 58) (tgt := 66) dX12_best_58 (by decide) (by omega) (fun h58 => ?_) (fun h58 => ?_)
          · refine V_iloadn (pc := 66) dX12_best_66 rfl ?_
            refine V_istore_2 (pc := 67) dX12_best_67 (by decide) rfl ?_
            refine V_iload (pc := 68) dX12_best_68 rfl ?_
            refine V_if_eq (pc := 70) (tgt := 78) dX12_best_70 (by decide) (by omega) (fun h70 => ?_) (fun h70 => ?_)
            · refine V_iloadn (pc := 78) dX12_best_78 rfl ?_
              refine V_istore_3 (pc := 79) dX12_best_79 (by decide) rfl ?_
              refine V_iinc_4 (pc := 80) dX12_best_80 (by decide) rfl ?_
              refine V_goto (pc := 83) (tgt := 20) dX12_best_83 (by decide) ?_
              first
                | (exfalso; omega)
                | exact ih _ _ _ _ _ _ (by omega) (by omega) (by omega) (by omega) hw2 (by rw [← hR0, bst_s]; first | rw [if_pos (by omega)] | rw [if_neg (by omega)])
            · refine V_iload (pc := 73) dX12_best_73 rfl ?_
              refine V_goto (pc := 75) (tgt := 79) dX12_best_75 (by decide) ?_
              refine V_istore_3 (pc := 79) dX12_best_79 (by decide) rfl ?_
              refine V_iinc_4 (pc := 80) dX12_best_80 (by decide) rfl ?_
              refine V_goto (pc := 83) (tgt := 20) dX12_best_83 (by decide) ?_
              first
                | (exfalso; omega)
                | exact ih _ _ _ _ _ _ (by omega) (by omega) (by omega) (by omega) hw2 (by rw [← hR0, bst_s]; first | rw [if_pos (by omega)] | rw [if_neg (by omega)])
          · refine V_iload (pc := 61) dX12_best_61 rfl ?_
            refine V_goto (pc := 63) (tgt := 67) dX12_best_63 (by decide) ?_
            refine V_istore_2 (pc := 67) dX12_best_67 (by decide) rfl ?_
            refine V_iload (pc := 68) dX12_best_68 rfl ?_
            refine V_if_eq (pc := 70) (tgt := 78) dX12_best_70 (by decide) (by omega) (fun h70 => ?_) (fun h70 => ?_)
            · refine V_iloadn (pc := 78) dX12_best_78 rfl ?_
              refine V_istore_3 (pc := 79) dX12_best_79 (by decide) rfl ?_
              refine V_iinc_4 (pc := 80) dX12_best_80 (by decide) rfl ?_
              refine V_goto (pc := 83) (tgt := 20) dX12_best_83 (by decide) ?_
              first
                | (exfalso; omega)
                | exact ih _ _ _ _ _ _ (by omega) (by omega) (by omega) (by omega) hw2 (by rw [← hR0, bst_s]; first | rw [if_pos (by omega)] | rw [if_neg (by omega)])
            · refine V_iload (pc := 73) dX12_best_73 rfl ?_
              refine V_goto (pc := 75) (tgt := 79) dX12_best_75 (by decide) ?_
              refine V_istore_3 (pc := 79) dX12_best_79 (by decide) rfl ?_
              refine V_iinc_4 (pc := 80) dX12_best_80 (by decide) rfl ?_
              refine V_goto (pc := 83) (tgt := 20) dX12_best_83 (by decide) ?_
              first
                | (exfalso; omega)
                | exact ih _ _ _ _ _ _ (by omega) (by omega) (by omega) (by omega) hw2 (by rw [← hR0, bst_s]; first | rw [if_pos (by omega)] | rw [if_neg (by omega)])
        · refine V_iconst (pc := 49) dX12_best_49 ?_
          refine V_goto (pc := 50) (tgt := 54) dX12_best_50 (by decide) ?_
          refine V_istore_6 (pc := 54) dX12_best_54 (by decide) rfl ?_
          refine V_iload (pc := 56) dX12_best_56 rfl ?_
          refine V_if_eq (pc := 58) (tgt := 66) dX12_best_58 (by decide) (by omega) (fun h58 => ?_) (fun h58 => ?_)
          · refine V_iloadn (pc := 66) dX12_best_66 rfl ?_
            refine V_istore_2 (pc := 67) dX12_best_67 (by decide) rfl ?_
            refine V_iload (pc := 68) dX12_best_68 rfl ?_
            refine V_if_eq (pc := 70) (tgt := 78) dX12_best_70 (by decide) (by omega) (fun h70 => ?_) (fun h70 => ?_)
            · refine V_iloadn (pc := 78) dX12_best_78 rfl ?_
              refine V_istore_3 (pc := 79) dX12_best_79 (by decide) rfl ?_
              refine V_iinc_4 (pc := 80) dX12_best_80 (by decide) rfl ?_
              refine V_goto (pc := 83) (tgt := 20) dX12_best_83 (by decide) ?_
              first
                | (exfalso; omega)
                | exact ih _ _ _ _ _ _ (by omega) (by omega) (by omega) (by omega) hw2 (by rw [← hR0, bst_s]; first | rw [if_pos (by omega)] | rw [if_neg (by omega)])
            · refine V_iload (pc := 73) dX12_best_73 rfl ?_
              refine V_goto (pc := 75) (tgt := 79) dX12_best_75 (by decide) ?_
              refine V_istore_3 (pc := 79) dX12_best_79 (by decide) rfl ?_
              refine V_iinc_4 (pc := 80) dX12_best_80 (by decide) rfl ?_
              refine V_goto (pc := 83) (tgt := 20) dX12_best_83 (by decide) ?_
              first
                | (exfalso; omega)
                | exact ih _ _ _ _ _ _ (by omega) (by omega) (by omega) (by omega) hw2 (by rw [← hR0, bst_s]; first | rw [if_pos (by omega)] | rw [if_neg (by omega)])
          · refine V_iload (pc := 61) dX12_best_61 rfl ?_
            refine V_goto (pc := 63) (tgt := 67) dX12_best_63 (by decide) ?_
            refine V_istore_2 (pc := 67) dX12_best_67 (by decide) rfl ?_
            refine V_iload (pc := 68) dX12_best_68 rfl ?_
            refine V_if_eq (pc := 70) (tgt := 78) dX12_best_70 (by decide) (by omega) (fun h70 => ?_) (fun h70 => ?_)
            · refine V_iloadn (pc := 78) dX12_best_78 rfl ?_
              refine V_istore_3 (pc := 79) dX12_best_79 (by decide) rfl ?_
              refine V_iinc_4 (pc := 80) dX12_best_80 (by decide) rfl ?_
              refine V_goto (pc := 83) (tgt := 20) dX12_best_83 (by decide) ?_
              first
                | (exfalso; omega)
                | exact ih _ _ _ _ _ _ (by omega) (by omega) (by omega) (by omega) hw2 (by rw [← hR0, bst_s]; first | rw [if_pos (by omega)] | rw [if_neg (by omega)])
            · refine V_iload (pc := 73) dX12_best_73 rfl ?_
              refine V_goto (pc := 75) (tgt := 79) dX12_best_75 (by decide) ?_
              refine V_istore_3 (pc := 79) dX12_best_79 (by decide) rfl ?_
              refine V_iinc_4 (pc := 80) dX12_best_80 (by decide) rfl ?_
              refine V_goto (pc := 83) (tgt := 20) dX12_best_83 (by decide) ?_
              first
                | (exfalso; omega)
                | exact ih _ _ _ _ _ _ (by omega) (by omega) (by omega) (by omega) hw2 (by rw [← hR0, bst_s]; first | rw [if_pos (by omega)] | rw [if_neg (by omega)])

set_option maxRecDepth 20000 in
theorem r_best {μ : Mem} (hW : GW μ) (hco : ∀ s, inR (cost μ s)) {u : Int} (hu : inR u) : SP mX12_best [vr 256, vi u] μ (fun w m => w = vi (cBest μ u) ∧ MWf μ m) := by
  refine SP_intro (ls := [vr 256, vi u, un, un, un, un, un]) (by decide +kernel) rfl rfl (Nat.le_of_ble_eq_true rfl) rfl (fun X hX => ?_)
  obtain ⟨hG, hln, hne, hcf⟩ := id hW
  obtain ⟨hL, hO, hV, hR⟩ := id hG
  obtain ⟨hL0, hL1, hL2, hL3, hL4⟩ := id hL
  obtain ⟨⟨r0, r1, r2⟩, hR1, hR2, hR3, hR4, hR5, hR6⟩ := id hR
  refine V_iloadn (pc := 0) dX12_best_0 rfl ?_
  refine V_i2l (pc := 1) dX12_best_1 (by omega) ?_
  refine V_lconst0 (pc := 2) dX12_best_2 ?_
  refine V_lconst1 (pc := 3) dX12_best_3 ?_
  refine V_cs3 (pc := 4) dX12_best_4 kX12_121 (by decide) (Nat.le_of_ble_eq_true rfl) (r_in (by omega) (by decide) (by decide)) rfl ?_
  refine V_ifne_b (pc := 7) (tgt := 13) dX12_best_7 (by decide) (fun h7 => ?_) (fun h7 => ?_)
  · refine V_iconst (pc := 13) dX12_best_13 ?_
    refine V_istore_2 (pc := 14) dX12_best_14 (by decide) rfl ?_
    refine V_iconst (pc := 15) dX12_best_15 ?_
    refine V_istore_3 (pc := 16) dX12_best_16 (by decide) rfl ?_
    refine V_iconst (pc := 17) dX12_best_17 ?_
    refine V_istore_4 (pc := 18) dX12_best_18 (by decide) rfl ?_
    have e : cBest μ u = if u = 0 then (bst μ (μ 32 0).toNat 0 (-1) (-1)).1 else (bst μ (μ 32 0).toNat 0 (-1) (-1)).2 := by unfold cBest; rw [if_pos (by omega)]
    rw [e] at hX
    exact l_mbest hW hco (by omega) hX (μ 32 0).toNat 0 (-1) (-1) _ _ μ (by omega) (by omega) (by omega) (by decide) (MWf.rf μ) rfl
  · refine V_ldc (pc := 10) (n := -1000000002) dX12_best_10 nX12_131 (by decide) ?_
    refine V_iret hX dX12_best_12 rfl ?_
    exact ⟨congrArg vi (by unfold cBest; rw [if_neg (by omega)]), MWf.rf μ⟩

/-- the reference's book is the class's -/
def RB (μ : Mem) : Prop := μ 256 49 = μ 160 4 ∧ (0 ≤ μ 160 4 ∧ μ 160 4 ≤ 20) ∧ ∀ k : Nat, (k : Int) < μ 160 4 → (μ 307 k = μ 161 k ∧ μ 308 k = μ 162 k ∧ μ 309 k = μ 163 k ∧ μ 310 k = μ 164 k) ∧ (0 ≤ μ 161 k ∧ μ 161 k < μ 32 0) ∧ (0 ≤ μ 162 k ∧ μ 162 k < μ 32 0) ∧ (1 ≤ μ 163 k ∧ μ 163 k ≤ 3) ∧ (0 ≤ μ 164 k ∧ μ 164 k ≤ 9999)

set_option maxRecDepth 20000 in
theorem l_mjudge {μ : Mem} (hW : GW μ) (hB : RB μ) {R : Int} {X : ZX} (hX : isM X (fun w m => w = vi R ∧ MWf μ m)) : ∀ (n : Nat) (k : Int) (ν : Mem), (k + n = μ 160 4) → (0 ≤ k) → (MWf μ ν) → (fwr μ n k = R) → V X mX12_judge 2 [vr 256, vi k] [] ν := by
  intro n
  induction n with
  | zero =>
    intro k ν h1 h2 hw hR0
    obtain ⟨hG, hln, hne, hcf⟩ := id hW
    obtain ⟨hL, hO, hV, hR⟩ := id hG
    obtain ⟨hL0, hL1, hL2, hL3, hL4⟩ := id hL
    obtain ⟨⟨r0, r1, r2⟩, hR1, hR2, hR3, hR4, hR5, hR6⟩ := id hR
    have hmc := hw.mc
    have hag := hmc.ag
    obtain ⟨hGn, hlnn, hnen, hcfn⟩ := GW_mc hmc hW
    obtain ⟨b0, b1, b2⟩ := id hB
    have e0 : ν 256 49 = μ 160 4 := by rw [hw.2 49 (by decide), b0]
    have e32 : ν 32 0 = μ 32 0 := by rw [hag 32 (by decide)]
    refine V_iloadn (pc := 2) dX12_judge_2 rfl ?_
    refine V_aloadn (pc := 3) dX12_judge_3 rfl ?_
    refine V_geti (r := 0) (pc := 4) dX12_judge_4 fX12_233 zk_256 ?_
    rw [e0]
    refine V_icmp_ge (pc := 7) (tgt := 61) dX12_judge_7 (by decide) (by omega) (by omega) (fun h7 => ?_) (fun h7 => ?_)
    · refine V_iconst (pc := 61) dX12_judge_61 ?_
      refine V_iret hX dX12_judge_62 rfl ?_
      exact ⟨congrArg vi hR0, hw⟩
    · exfalso; omega
  | succ n ih =>
    intro k ν h1 h2 hw hR0
    obtain ⟨hG, hln, hne, hcf⟩ := id hW
    obtain ⟨hL, hO, hV, hR⟩ := id hG
    obtain ⟨hL0, hL1, hL2, hL3, hL4⟩ := id hL
    obtain ⟨⟨r0, r1, r2⟩, hR1, hR2, hR3, hR4, hR5, hR6⟩ := id hR
    have hmc := hw.mc
    have hag := hmc.ag
    obtain ⟨hGn, hlnn, hnen, hcfn⟩ := GW_mc hmc hW
    obtain ⟨b0, b1, b2⟩ := id hB
    have e0 : ν 256 49 = μ 160 4 := by rw [hw.2 49 (by decide), b0]
    have e32 : ν 32 0 = μ 32 0 := by rw [hag 32 (by decide)]
    have bk := b2 k.toNat (by omega)
    have q1 : ν 307 k.toNat = μ 161 k.toNat := by rw [hw.1 307 (by decide) (by decide) (by decide)]; exact bk.1.1
    have q2 : ν 308 k.toNat = μ 162 k.toNat := by rw [hw.1 308 (by decide) (by decide) (by decide)]; exact bk.1.2.1
    have rr := wkF_rg μ hln (μ 161 k.toNat) (μ 162 k.toNat) 0
    refine V_iloadn (pc := 2) dX12_judge_2 rfl ?_
    refine V_aloadn (pc := 3) dX12_judge_3 rfl ?_
    refine V_geti (r := 0) (pc := 4) dX12_judge_4 fX12_233 zk_256 ?_
    rw [e0]
    refine V_icmp_ge (pc := 7) (tgt := 61) dX12_judge_7 (by decide) (by omega) (by omega) (fun h7 => ?_) (fun h7 => ?_)
    · exfalso; omega
    · refine V_aloadn (pc := 10) dX12_judge_10 rfl ?_
      refine V_aloadn (pc := 11) dX12_judge_11 rfl ?_
      refine V_getr (pc := 12) dX12_judge_12 fX12_99 zk_256 zr_256_50 ?_
      refine V_iloadn (pc := 15) dX12_judge_15 rfl ?_
      refine V_iald (pc := 16) dX12_judge_16 zk_307 (by omega) (by omega) (by decide) ?_
      rw [q1]
      refine V_aloadn (pc := 17) dX12_judge_17 rfl ?_
      refine V_getr (pc := 18) dX12_judge_18 fX12_102 zk_256 zr_256_51 ?_
      refine V_iloadn (pc := 21) dX12_judge_21 rfl ?_
      refine V_iald (pc := 22) dX12_judge_22 zk_308 (by omega) (by omega) (by decide) ?_
      rw [q2]
      refine V_iconst (pc := 23) dX12_judge_23 ?_
      refine V_cq3 (pc := 24) dX12_judge_24 kX12_286 zk_256 (by decide) (Nat.le_of_ble_eq_true rfl) (r_walkNow hGn (by rw [e32]; exact bk.2.1) (by rw [e32]; exact bk.2.2.1) (by decide) (hnen _ _ _ (by rw [e32]; exact bk.2.1) (by rw [e32]; exact bk.2.2.1) (by decide))) ?_
      intro w m hm
      obtain ⟨rfl, hm⟩ := hm
      rw [wkF_ag hag] at hm
      have hw2 := MWf.tr hw hm.1
      have q3 : m 309 k.toNat = μ 163 k.toNat := by rw [hw2.1 309 (by decide) (by decide) (by decide)]; exact bk.1.2.2.1
      have q4 : m 310 k.toNat = μ 164 k.toNat := by rw [hw2.1 310 (by decide) (by decide) (by decide)]; exact bk.1.2.2.2
      show V X _ _ _ _ m
      refine V_aloadn (pc := 27) dX12_judge_27 rfl ?_
      refine V_geti (r := 0) (pc := 28) dX12_judge_28 fX12_283 zk_256 ?_
      rw [hm.2.1]
      refine V_aloadn (pc := 31) dX12_judge_31 rfl ?_
      refine V_getr (pc := 32) dX12_judge_32 fX12_105 zk_256 zr_256_52 ?_
      refine V_iloadn (pc := 35) dX12_judge_35 rfl ?_
      refine V_iald (pc := 36) dX12_judge_36 zk_309 (by omega) (by omega) (by decide) ?_
      rw [q3]
      refine V_icmp_ne (pc := 37) (tgt := 53) dX12_judge_37 (by decide) (by omega) (by omega) (fun h37 => ?_) (fun h37 => ?_)
      · refine V_iloadn (pc := 53) dX12_judge_53 rfl ?_
        refine V_iret hX dX12_judge_54 rfl ?_
        exact ⟨congrArg vi (by rw [← hR0, fwr_s, if_neg (by omega)]), hw2⟩
      · refine V_aloadn (pc := 40) dX12_judge_40 rfl ?_
        refine V_geti (r := 0) (pc := 41) dX12_judge_41 fX12_277 zk_256 ?_
        rw [hm.2.2.1]
        refine V_aloadn (pc := 44) dX12_judge_44 rfl ?_
        refine V_getr (pc := 45) dX12_judge_45 fX12_108 zk_256 zr_256_53 ?_
        refine V_iloadn (pc := 48) dX12_judge_48 rfl ?_
        refine V_iald (pc := 49) dX12_judge_49 zk_310 (by omega) (by omega) (by decide) ?_
        rw [q4]
        refine V_icmp_eq (pc := 50) (tgt := 55) dX12_judge_50 (by decide) (by omega) (by omega) (fun h50 => ?_) (fun h50 => ?_)
        · refine V_iinc_1 (pc := 55) dX12_judge_55 (by decide) rfl ?_
          refine V_goto (pc := 58) (tgt := 2) dX12_judge_58 (by decide) ?_
          exact ih _ _ (by omega) (by omega) hw2 (by rw [← hR0, fwr_s, if_pos (by omega)])
        · refine V_iloadn (pc := 53) dX12_judge_53 rfl ?_
          refine V_iret hX dX12_judge_54 rfl ?_
          exact ⟨congrArg vi (by rw [← hR0, fwr_s, if_neg (by omega)]), hw2⟩

set_option maxRecDepth 20000 in
theorem r_judge {μ : Mem} (hW : GW μ) (hB : RB μ) : SP mX12_judge [vr 256] μ (fun w m => w = vi (fwr μ (μ 160 4).toNat 0) ∧ MWf μ m) := by
  refine SP_intro (ls := [vr 256, un]) (by decide +kernel) rfl rfl (Nat.le_of_ble_eq_true rfl) rfl (fun X hX => ?_)
  obtain ⟨hG, hln, hne, hcf⟩ := id hW
  obtain ⟨hL, hO, hV, hR⟩ := id hG
  obtain ⟨hL0, hL1, hL2, hL3, hL4⟩ := id hL
  obtain ⟨⟨r0, r1, r2⟩, hR1, hR2, hR3, hR4, hR5, hR6⟩ := id hR
  obtain ⟨b0, b1, b2⟩ := id hB
  refine V_iconst (pc := 0) dX12_judge_0 ?_
  refine V_istore_1 (pc := 1) dX12_judge_1 (by decide) rfl ?_
  exact l_mjudge hW hB hX (μ 160 4).toNat 0 μ (by omega) (by omega) (MWf.rf μ) rfl

set_option maxRecDepth 20000 in
theorem r_isQuarrel {μ : Mem} (hG : GI μ) (hmt : ∀ p t, (0 ≤ p ∧ p < μ 32 0) → (0 ≤ t ∧ t < μ 32 0) → ¬ aT μ 80 p t 0 = -1 → ¬ mT μ 80 p t = -1 ∧ mT μ 80 p t < 1000000 ∧ ¬ gFar μ 32 p t = -1) {p t b : Int} (hself : ∀ q, q = t → aT μ 80 q t 0 = -1) (hp : 0 ≤ p ∧ p < μ 32 0) (ht : 0 ≤ t ∧ t < μ 32 0) (hb : b = 0 ∨ b = 1) : SP mX12_isQuarrel [vr 256, vi p, vi t, vi b] μ (fun w m => w = vi (bi (qF μ b p t)) ∧ m = μ) := by
  refine SP_intro (ls := [vr 256, vi p, vi t, vi b, un, un]) (by decide +kernel) rfl rfl (Nat.le_of_ble_eq_true rfl) rfl (fun X hX => ?_)
  obtain ⟨hL, hO, hV, hR⟩ := id hG
  obtain ⟨hL0, hL1, hL2, hL3, hL4⟩ := id hL
  obtain ⟨⟨r0, r1, r2⟩, hR1, hR2, hR3, hR4, hR5, hR6⟩ := id hR
  have a := RM.arm hG hp ht
  have z := aT_0 hG hp ht
  have s := hL3 p.toNat
  have mr := mT_rg hO p t
  refine V_aloadn (pc := 0) dX12_isQuarrel_0 rfl ?_
  refine V_iloadn (pc := 1) dX12_isQuarrel_1 rfl ?_
  refine V_iloadn (pc := 2) dX12_isQuarrel_2 rfl ?_
  refine V_cv2 (pc := 3) dX12_isQuarrel_3 kX12_263 zk_256 (by decide) (Nat.le_of_ble_eq_true rfl) (r_isTold hG hp ht) rfl ?_
  refine V_ifne_b (pc := 6) (tgt := 11) dX12_isQuarrel_6 (by decide) (fun h6 => ?_) (fun h6 => ?_)
  · have t1 : μ 272 (9 * p + t).toNat = mT μ 80 p t := by unfold mT; rw [if_neg (by omega)]; exact a.2.2.2.2 (by omega)
    have t2 : μ 268 (9 * p + t).toNat = gFar μ 32 p t ∨ (gFar μ 32 p t = -1 ∧ μ 268 (9 * p + t).toNat = 1000000) := by
      have := a.2.1
      split at this
      · exact Or.inr ⟨by assumption, this⟩
      · exact Or.inl this
    have m1 : ¬ mT μ 80 p t = -1 ∧ mT μ 80 p t < 1000000 ∧ ¬ gFar μ 32 p t = -1 := hmt p t hp ht (by omega)
    have eS : sA μ p (gArm μ 32 p t) 0 = gArm μ 32 p t := by
      have e0 : gSd μ 32 p = μ (32 + 10) p.toNat := by unfold gSd; rw [if_pos hp]
      unfold sA; rw [if_pos (by omega), Int.add_zero, e0]; exact Int.emod_eq_of_lt (by omega) (by omega)
    have sd := hV.side hp (i := gArm μ 32 p t) (by omega)
    have o1 := hV.one sd.2.1
    have rd := hR.road sd.2.1
    have gb : 0 ≤ gBy μ 32 p (gRd μ 32 p (gArm μ 32 p t)) ∧ gBy μ 32 p (gRd μ 32 p (gArm μ 32 p t)) < μ 32 0 := by rw [gBy_eq sd.2.1]; split <;> omega
    have gl := gLn_eq sd.2.1
    refine V_iloadn (pc := 11) dX12_isQuarrel_11 rfl ?_
    refine V_if_ne (pc := 12) (tgt := 46) dX12_isQuarrel_12 (by decide) (by omega) (fun h12 => ?_) (fun h12 => ?_)
    · refine V_aloadn (pc := 46) dX12_isQuarrel_46 rfl ?_
      refine V_iloadn (pc := 47) dX12_isQuarrel_47 rfl ?_
      refine V_aloadn (pc := 48) dX12_isQuarrel_48 rfl ?_
      refine V_getr (pc := 49) dX12_isQuarrel_49 fX12_37 zk_256 zr_256_12 ?_
      refine V_bipush (pc := 52) dX12_isQuarrel_52 (by decide +kernel) ?_
      refine V_iloadn (pc := 54) dX12_isQuarrel_54 rfl ?_
      refine V_imul (pc := 55) dX12_isQuarrel_55 ?_
      refine V_iloadn (pc := 56) dX12_isQuarrel_56 rfl ?_
      refine V_iadd (pc := 57) dX12_isQuarrel_57 ?_
      refine V_iald (pc := 58) dX12_isQuarrel_58 zk_269 (by omega) (by omega) (by decide) ?_
      rw [a.1]
      refine V_iconst (pc := 59) dX12_isQuarrel_59 ?_
      refine V_cv3 (pc := 60) dX12_isQuarrel_60 kX12_256 zk_256 (by decide) (Nat.le_of_ble_eq_true rfl) (r_stands hG hp (by omega) (by decide)) rfl ?_
      rw [eS]
      refine V_istore_4 (pc := 63) dX12_isQuarrel_63 (by decide) rfl ?_
      refine V_aloadn (pc := 65) dX12_isQuarrel_65 rfl ?_
      refine V_iload (pc := 66) dX12_isQuarrel_66 rfl ?_
      refine V_iloadn (pc := 68) dX12_isQuarrel_68 rfl ?_
      refine V_cv2 (pc := 69) dX12_isQuarrel_69 kX12_237 zk_256 (by decide) (Nat.le_of_ble_eq_true rfl) (r_otherEnd hG (by omega) (by omega)) rfl ?_
      rw [if_pos sd.2.2]
      refine V_istore_5 (pc := 72) dX12_isQuarrel_72 (by decide) rfl ?_
      refine V_iload (pc := 74) dX12_isQuarrel_74 rfl ?_
      refine V_iloadn (pc := 76) dX12_isQuarrel_76 rfl ?_
      refine V_icmp_eq (pc := 77) (tgt := 128) dX12_isQuarrel_77 (by decide) (by omega) (by omega) (fun h77 => ?_) (fun h77 => ?_)
      · refine V_iconst (pc := 128) dX12_isQuarrel_128 ?_
        refine V_zret hX dX12_isQuarrel_129 rfl (by first | exact Or.inl rfl | exact Or.inr rfl | exact bi_01 _) ?_
        refine ⟨congrArg vi ?_, rfl⟩
        first
          | exact (bi_neg (c := qF μ b p t) (fun q => by unfold qF qW qY at q; have hz : mT μ 80 p t = -1 := (by unfold mT; rw [if_pos (by omega)]); omega)).symm
          | exact (bi_pos (c := qF μ b p t) (by unfold qF qW qY; omega)).symm
          | exact (bi_neg (c := qF μ b p t) (by unfold qF qW qY; omega)).symm
          | exact (bi_neg (c := qF μ b p t) (fun q => by
              unfold qF qW qY at q
              have hz : mT μ 80 (gBy μ 32 p (gRd μ 32 p (gArm μ 32 p t))) t = -1 := by
                unfold mT; rw [if_pos (by first | exact Classical.not_not.mp (by assumption) | (exact (hself _ (by assumption))))]
              omega)).symm
      · refine V_aloadn (pc := 80) dX12_isQuarrel_80 rfl ?_
        refine V_iload (pc := 81) dX12_isQuarrel_81 rfl ?_
        refine V_iloadn (pc := 83) dX12_isQuarrel_83 rfl ?_
        refine V_cv2 (pc := 84) dX12_isQuarrel_84 kX12_263 zk_256 (by decide) (Nat.le_of_ble_eq_true rfl) (r_isTold hG (by omega) ht) rfl ?_
        refine V_ifeq_b (pc := 87) (tgt := 128) dX12_isQuarrel_87 (by decide) (fun h87 => ?_) (fun h87 => ?_)
        · refine V_iconst (pc := 128) dX12_isQuarrel_128 ?_
          refine V_zret hX dX12_isQuarrel_129 rfl (by first | exact Or.inl rfl | exact Or.inr rfl | exact bi_01 _) ?_
          refine ⟨congrArg vi ?_, rfl⟩
          first
            | exact (bi_neg (c := qF μ b p t) (fun q => by unfold qF qW qY at q; have hz : mT μ 80 p t = -1 := (by unfold mT; rw [if_pos (by omega)]); omega)).symm
            | exact (bi_pos (c := qF μ b p t) (by unfold qF qW qY; omega)).symm
            | exact (bi_neg (c := qF μ b p t) (by unfold qF qW qY; omega)).symm
            | exact (bi_neg (c := qF μ b p t) (fun q => by
                unfold qF qW qY at q
                have hz : mT μ 80 (gBy μ 32 p (gRd μ 32 p (gArm μ 32 p t))) t = -1 := by
                  unfold mT; rw [if_pos (by first | exact Classical.not_not.mp (by assumption) | (exact (hself _ (by assumption))))]
                omega)).symm
        · have t3 : μ 272 (9 * gBy μ 32 p (gRd μ 32 p (gArm μ 32 p t)) + t).toNat = mT μ 80 (gBy μ 32 p (gRd μ 32 p (gArm μ 32 p t))) t := by
            have z2 := aT_0 hG gb ht
            unfold mT; rw [if_neg (by assumption)]; exact (RM.arm hG gb ht).2.2.2.2 (by omega)
          have m2 := hmt (gBy μ 32 p (gRd μ 32 p (gArm μ 32 p t))) t gb ht (by assumption)
          have mr2 := mT_rg hO (gBy μ 32 p (gRd μ 32 p (gArm μ 32 p t))) t
          refine V_aloadn (pc := 90) dX12_isQuarrel_90 rfl ?_
          refine V_getr (pc := 91) dX12_isQuarrel_91 fX12_46 zk_256 zr_256_15 ?_
          refine V_bipush (pc := 94) dX12_isQuarrel_94 (by decide +kernel) ?_
          refine V_iloadn (pc := 96) dX12_isQuarrel_96 rfl ?_
          refine V_imul (pc := 97) dX12_isQuarrel_97 ?_
          refine V_iloadn (pc := 98) dX12_isQuarrel_98 rfl ?_
          refine V_iadd (pc := 99) dX12_isQuarrel_99 ?_
          refine V_iald (pc := 100) dX12_isQuarrel_100 zk_272 (by omega) (by omega) (by decide) ?_
          rw [t1]
          refine V_aloadn (pc := 101) dX12_isQuarrel_101 rfl ?_
          refine V_getr (pc := 102) dX12_isQuarrel_102 fX12_46 zk_256 zr_256_15 ?_
          refine V_bipush (pc := 105) dX12_isQuarrel_105 (by decide +kernel) ?_
          refine V_iload (pc := 107) dX12_isQuarrel_107 rfl ?_
          refine V_imul (pc := 109) dX12_isQuarrel_109 ?_
          refine V_iloadn (pc := 110) dX12_isQuarrel_110 rfl ?_
          refine V_iadd (pc := 111) dX12_isQuarrel_111 ?_
          refine V_iald (pc := 112) dX12_isQuarrel_112 zk_272 (by omega) (by omega) (by decide) ?_
          rw [t3]
          refine V_isub (pc := 113) dX12_isQuarrel_113 ?_
          refine V_aloadn (pc := 114) dX12_isQuarrel_114 rfl ?_
          refine V_getr (pc := 115) dX12_isQuarrel_115 fX12_16 zk_256 zr_256_4 ?_
          refine V_iload (pc := 118) dX12_isQuarrel_118 rfl ?_
          refine V_iald (pc := 120) dX12_isQuarrel_120 zk_261 (by omega) (by omega) (by decide) ?_
          rw [rd.2.2, ← gl]
          refine V_icmp_eq (pc := 121) (tgt := 128) dX12_isQuarrel_121 (by decide) (by omega) (by omega) (fun h121 => ?_) (fun h121 => ?_)
          · refine V_iconst (pc := 128) dX12_isQuarrel_128 ?_
            refine V_zret hX dX12_isQuarrel_129 rfl (by first | exact Or.inl rfl | exact Or.inr rfl | exact bi_01 _) ?_
            refine ⟨congrArg vi ?_, rfl⟩
            first
              | exact (bi_neg (c := qF μ b p t) (fun q => by unfold qF qW qY at q; have hz : mT μ 80 p t = -1 := (by unfold mT; rw [if_pos (by omega)]); omega)).symm
              | exact (bi_pos (c := qF μ b p t) (by unfold qF qW qY; omega)).symm
              | exact (bi_neg (c := qF μ b p t) (by unfold qF qW qY; omega)).symm
              | exact (bi_neg (c := qF μ b p t) (fun q => by
                  unfold qF qW qY at q
                  have hz : mT μ 80 (gBy μ 32 p (gRd μ 32 p (gArm μ 32 p t))) t = -1 := by
                    unfold mT; rw [if_pos (by first | exact Classical.not_not.mp (by assumption) | (exact (hself _ (by assumption))))]
                  omega)).symm
          · refine V_iconst (pc := 124) dX12_isQuarrel_124 ?_
            refine V_goto (pc := 125) (tgt := 129) dX12_isQuarrel_125 (by decide) ?_
            refine V_zret hX dX12_isQuarrel_129 rfl (by first | exact Or.inl rfl | exact Or.inr rfl | exact bi_01 _) ?_
            refine ⟨congrArg vi ?_, rfl⟩
            first
              | exact (bi_neg (c := qF μ b p t) (fun q => by unfold qF qW qY at q; have hz : mT μ 80 p t = -1 := (by unfold mT; rw [if_pos (by omega)]); omega)).symm
              | exact (bi_pos (c := qF μ b p t) (by unfold qF qW qY; omega)).symm
              | exact (bi_neg (c := qF μ b p t) (by unfold qF qW qY; omega)).symm
              | exact (bi_neg (c := qF μ b p t) (fun q => by
                  unfold qF qW qY at q
                  have hz : mT μ 80 (gBy μ 32 p (gRd μ 32 p (gArm μ 32 p t))) t = -1 := by
                    unfold mT; rw [if_pos (by first | exact Classical.not_not.mp (by assumption) | (exact (hself _ (by assumption))))]
                  omega)).symm
    · refine V_aloadn (pc := 15) dX12_isQuarrel_15 rfl ?_
      refine V_getr (pc := 16) dX12_isQuarrel_16 fX12_46 zk_256 zr_256_15 ?_
      refine V_bipush (pc := 19) dX12_isQuarrel_19 (by decide +kernel) ?_
      refine V_iloadn (pc := 21) dX12_isQuarrel_21 rfl ?_
      refine V_imul (pc := 22) dX12_isQuarrel_22 ?_
      refine V_iloadn (pc := 23) dX12_isQuarrel_23 rfl ?_
      refine V_iadd (pc := 24) dX12_isQuarrel_24 ?_
      refine V_iald (pc := 25) dX12_isQuarrel_25 zk_272 (by omega) (by omega) (by decide) ?_
      rw [t1]
      refine V_aloadn (pc := 26) dX12_isQuarrel_26 rfl ?_
      refine V_getr (pc := 27) dX12_isQuarrel_27 fX12_34 zk_256 zr_256_11 ?_
      refine V_bipush (pc := 30) dX12_isQuarrel_30 (by decide +kernel) ?_
      refine V_iloadn (pc := 32) dX12_isQuarrel_32 rfl ?_
      refine V_imul (pc := 33) dX12_isQuarrel_33 ?_
      refine V_iloadn (pc := 34) dX12_isQuarrel_34 rfl ?_
      refine V_iadd (pc := 35) dX12_isQuarrel_35 ?_
      refine V_iald (pc := 36) dX12_isQuarrel_36 zk_268 (by omega) (by omega) (by decide) ?_
      refine V_icmp_eq (pc := 37) (tgt := 44) dX12_isQuarrel_37 (by decide) (by omega) (by omega) (fun h37 => ?_) (fun h37 => ?_)
      · refine V_iconst (pc := 44) dX12_isQuarrel_44 ?_
        refine V_zret hX dX12_isQuarrel_45 rfl (by first | exact Or.inl rfl | exact Or.inr rfl | exact bi_01 _) ?_
        refine ⟨congrArg vi ?_, rfl⟩
        first
          | exact (bi_neg (c := qF μ b p t) (fun q => by unfold qF qW qY at q; have hz : mT μ 80 p t = -1 := (by unfold mT; rw [if_pos (by omega)]); omega)).symm
          | exact (bi_pos (c := qF μ b p t) (by unfold qF qW qY; omega)).symm
          | exact (bi_neg (c := qF μ b p t) (by unfold qF qW qY; omega)).symm
          | exact (bi_neg (c := qF μ b p t) (fun q => by
              unfold qF qW qY at q
              have hz : mT μ 80 (gBy μ 32 p (gRd μ 32 p (gArm μ 32 p t))) t = -1 := by
                unfold mT; rw [if_pos (by first | exact Classical.not_not.mp (by assumption) | (exact (hself _ (by assumption))))]
              omega)).symm
      · refine V_iconst (pc := 40) dX12_isQuarrel_40 ?_
        refine V_goto (pc := 41) (tgt := 45) dX12_isQuarrel_41 (by decide) ?_
        refine V_zret hX dX12_isQuarrel_45 rfl (by first | exact Or.inl rfl | exact Or.inr rfl | exact bi_01 _) ?_
        refine ⟨congrArg vi ?_, rfl⟩
        first
          | exact (bi_neg (c := qF μ b p t) (fun q => by unfold qF qW qY at q; have hz : mT μ 80 p t = -1 := (by unfold mT; rw [if_pos (by omega)]); omega)).symm
          | exact (bi_pos (c := qF μ b p t) (by unfold qF qW qY; omega)).symm
          | exact (bi_neg (c := qF μ b p t) (by unfold qF qW qY; omega)).symm
          | exact (bi_neg (c := qF μ b p t) (fun q => by
              unfold qF qW qY at q
              have hz : mT μ 80 (gBy μ 32 p (gRd μ 32 p (gArm μ 32 p t))) t = -1 := by
                unfold mT; rw [if_pos (by first | exact Classical.not_not.mp (by assumption) | (exact (hself _ (by assumption))))]
              omega)).symm
  · refine V_iconst (pc := 9) dX12_isQuarrel_9 ?_
    refine V_zret hX dX12_isQuarrel_10 rfl (by first | exact Or.inl rfl | exact Or.inr rfl | exact bi_01 _) ?_
    refine ⟨congrArg vi ?_, rfl⟩
    first
      | exact (bi_neg (c := qF μ b p t) (fun q => by unfold qF qW qY at q; have hz : mT μ 80 p t = -1 := (by unfold mT; rw [if_pos (by omega)]); omega)).symm
      | exact (bi_pos (c := qF μ b p t) (by unfold qF qW qY; omega)).symm
      | exact (bi_neg (c := qF μ b p t) (by unfold qF qW qY; omega)).symm
      | exact (bi_neg (c := qF μ b p t) (fun q => by
          unfold qF qW qY at q
          have hz : mT μ 80 (gBy μ 32 p (gRd μ 32 p (gArm μ 32 p t))) t = -1 := by
            unfold mT; rw [if_pos (by first | exact Classical.not_not.mp (by assumption) | (exact (hself _ (by assumption))))]
          omega)).symm


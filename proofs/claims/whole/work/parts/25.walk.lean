/-- two memories agree on the ground and the posts -/
def Ag (μ ν : Mem) : Prop := ∀ k, k < 96 → ν k = μ k
theorem Ag.rf (μ : Mem) : Ag μ μ := fun _ _ => rfl
theorem Ag.mu {μ ν : Mem} (h : Ag μ ν) {k j : Nat} {v : Int} (hk : 96 ≤ k) : Ag μ (mu ν k j v) := fun a ha => (mu_ne (by omega)).trans (h a ha)
theorem Ag.mw {μ ν : Mem} (h : Ag μ ν) {k : Nat} {v : Row} (hk : 96 ≤ k) : Ag μ (mw ν k v) := fun a ha => (mw_ne (by omega)).trans (h a ha)
theorem Ag.tr {μ ν ξ : Mem} (h : Ag μ ν) (h2 : Ag ν ξ) : Ag μ ξ := fun a ha => (h2 a ha).trans (h a ha)
theorem LOK_ag {μ ν : Mem} (g : Ag μ ν) (h : LOK μ 32) : LOK ν 32 := LOK_cg h (g 32 (by decide)) (fun k h1 h2 => g (32 + k) (by omega))
theorem POK_ag {μ ν : Mem} (g : Ag μ ν) (h : POK μ 80) : POK ν 80 := by
  obtain ⟨a, b, c⟩ := h
  exact ⟨fun p => by rw [g (80 + 2) (by decide)]; exact a p, fun p => by rw [g (80 + 3) (by decide)]; exact b p, fun p => by rw [g (80 + 4) (by decide)]; exact c p⟩
section
variable {μ ν : Mem}
theorem gSd_ag (g : Ag μ ν) (p : Int) : gSd ν 32 p = gSd μ 32 p := gSd_cg (g 32 (by decide)) (g (32 + 10) (by decide)) p
theorem gOne_ag (g : Ag μ ν) (p : Int) : gOne ν 32 p = gOne μ 32 p := gOne_cg (g 32 (by decide)) (g (32 + 4) (by decide)) p
theorem gTwo_ag (g : Ag μ ν) (p : Int) : gTwo ν 32 p = gTwo μ 32 p := gTwo_cg (g 32 (by decide)) (g (32 + 5) (by decide)) p
theorem gLn_ag (g : Ag μ ν) (p : Int) : gLn ν 32 p = gLn μ 32 p := gLn_cg (g 32 (by decide)) (g (32 + 6) (by decide)) p
theorem gFr_ag (g : Ag μ ν) (p : Int) : gFr ν 32 p = gFr μ 32 p := by unfold gFr; rw [g 32 (by decide), g (32 + 7) (by decide)]
theorem gTo_ag (g : Ag μ ν) (p : Int) : gTo ν 32 p = gTo μ 32 p := by unfold gTo; rw [g 32 (by decide), g (32 + 8) (by decide)]
theorem gHd_ag (g : Ag μ ν) (p : Int) : gHd ν 32 p = gHd μ 32 p := by unfold gHd; rw [g 32 (by decide), g (32 + 9) (by decide)]
theorem gRd_ag (g : Ag μ ν) (p i : Int) : gRd ν 32 p i = gRd μ 32 p i := gRd_cg (g 32 (by decide)) (g (32 + 10) (by decide)) (g (32 + 11) (by decide)) p i
theorem gBy_ag (g : Ag μ ν) (p i : Int) : gBy ν 32 p i = gBy μ 32 p i := gBy_cg (g 32 (by decide)) (g (32 + 4) (by decide)) (g (32 + 5) (by decide)) p i
theorem gFar_ag (g : Ag μ ν) (p i : Int) : gFar ν 32 p i = gFar μ 32 p i := gFar_cg (g 32 (by decide)) (g (32 + 12) (by decide)) p i
theorem gArm_ag (g : Ag μ ν) (p i : Int) : gArm ν 32 p i = gArm μ 32 p i := gArm_cg (g 32 (by decide)) (g (32 + 13) (by decide)) p i
theorem pT_ag (g : Ag μ ν) (p : Int) : pT ν 80 p = pT μ 80 p := by unfold pT; rw [g 32 (by decide), g (80 + 2) (by decide)]
theorem pF_ag (g : Ag μ ν) (p : Int) : pF ν 80 p = pF μ 80 p := by unfold pF; rw [g 32 (by decide), g (80 + 3) (by decide)]
theorem pM_ag (g : Ag μ ν) (p t : Int) : pM ν 80 p t = pM μ 80 p t := by unfold pM; rw [g 32 (by decide), g (80 + 4) (by decide)]
theorem aT_ag (g : Ag μ ν) (p t r : Int) : aT ν 80 p t r = aT μ 80 p t r := by
  unfold aT Fl; simp only [gArm_ag g, g 32 (by decide), g (80 + 3) (by decide)]
theorem sA_ag (g : Ag μ ν) (p t r : Int) : sA ν p t r = sA μ p t r := by unfold sA; simp only [gSd_ag g]
theorem rT_ag (g : Ag μ ν) (p t r : Int) : rT ν 80 p t r = rT μ 80 p t r := by
  unfold rT; simp only [aT_ag g, gRd_ag g, sA_ag g, pT_ag g]
theorem mT_ag (g : Ag μ ν) (p t : Int) : mT ν 80 p t = mT μ 80 p t := by unfold mT; simp only [aT_ag g, pM_ag g]
end
/-- THE WALK: at, been, miles so far; how it ends (0: not yet), miles, the places come to -/
def wk (μ : Mem) (t r : Int) : Nat → Int → Int → Int → Int × Int × List Int
  | 0, _, _, ms => (0, ms, [])
  | n + 1, x, been, ms => if rT μ 80 x t r = -1 then (2, ms, []) else if gBy μ 32 x (rT μ 80 x t r) = t then (1, ms + gLn μ 32 (rT μ 80 x t r), [gBy μ 32 x (rT μ 80 x t r)]) else if In been (gBy μ 32 x (rT μ 80 x t r)) then (3, ms + gLn μ 32 (rT μ 80 x t r), [gBy μ 32 x (rT μ 80 x t r)])
    else ((wk μ t r n (gBy μ 32 x (rT μ 80 x t r)) (iorr been (ishl 1 (gBy μ 32 x (rT μ 80 x t r)))) (ms + gLn μ 32 (rT μ 80 x t r))).1, (wk μ t r n (gBy μ 32 x (rT μ 80 x t r)) (iorr been (ishl 1 (gBy μ 32 x (rT μ 80 x t r)))) (ms + gLn μ 32 (rT μ 80 x t r))).2.1, gBy μ 32 x (rT μ 80 x t r) :: (wk μ t r n (gBy μ 32 x (rT μ 80 x t r)) (iorr been (ishl 1 (gBy μ 32 x (rT μ 80 x t r)))) (ms + gLn μ 32 (rT μ 80 x t r))).2.2)
def wkF (μ : Mem) (a t r : Int) : Int × Int × List Int := if a = t then (1, 0, []) else wk μ t r 9 a (ishl 1 a) 0
theorem wk_ag {μ ν : Mem} (g : Ag μ ν) (t r : Int) : ∀ (n : Nat) (x been ms : Int), wk ν t r n x been ms = wk μ t r n x been ms := by
  intro n
  induction n with
  | zero => intros; rfl
  | succ n ih => intro x been ms; simp only [wk, rT_ag g, gBy_ag g, gLn_ag g, ih]
theorem wkF_ag {μ ν : Mem} (g : Ag μ ν) (a t r : Int) : wkF ν a t r = wkF μ a t r := by unfold wkF; rw [wk_ag g]
/-- what the stranger's cells hold behind the places pre -/
def WI (μ ν : Mem) (a ms : Int) (pre : List Int) (e : Int) : Prop := (∀ k, k ≠ 96 → k ≠ 99 → ν k = μ k) ∧ ν 96 5 = e ∧ ν 96 4 = ms ∧ ν 96 3 = pre.length ∧ ν 99 0 = a ∧ ∀ i, i < pre.length → ν 99 (i + 1) = pre.getD i 0
theorem WI.ag {μ ν : Mem} {a ms : Int} {pre : List Int} {e : Int} (h : WI μ ν a ms pre e) : Ag μ ν := fun k hk => h.1 k (by omega) (by omega)
theorem WI_init (μ : Mem) (a e : Int) : WI μ (mu (mu (mu (mu μ 99 0 a) 96 3 0) 96 4 0) 96 5 e) a 0 [] e := by
  refine ⟨fun k h1 h2 => ?_, by simp [mu], by simp [mu], by simp [mu], by simp [mu], fun i hi => by simp at hi⟩
  rw [mu_ne h1, mu_ne h1, mu_ne h1, mu_ne h2]
theorem WI_lost {μ ν : Mem} {a ms : Int} {pre : List Int} (h : WI μ ν a ms pre 0) : WI μ (mu ν 96 5 2) a ms pre 2 := by
  obtain ⟨h1, h2, h3, h4, h5, h6⟩ := h
  refine ⟨fun k q1 q2 => (mu_ne q1).trans (h1 k q1 q2), by simp [mu], by simp [mu, h3], by simp [mu, h4], by simp [mu, h5], fun i hi => by rw [mu_c (by decide)]; exact h6 i hi⟩
theorem WI_step {μ ν : Mem} {a ms l q k e : Int} {pre : List Int} (h : WI μ ν a ms pre 0) (hk : k = pre.length + 1) : WI μ (mu (mu (mu (mu ν 99 k.toNat q) 96 3 k) 96 4 (ms + l)) 96 5 e) a (ms + l) (pre ++ [q]) e := by
  obtain ⟨h1, h2, h3, h4, h5, h6⟩ := h
  have hkn : k.toNat = pre.length + 1 := by omega
  refine ⟨fun k q1 q2 => ?_, by simp [mu], by simp [mu], ?_, ?_, fun i hi => ?_⟩
  · rw [mu_ne q1, mu_ne q1, mu_ne q1, mu_ne q2]; exact h1 k q1 q2
  · simp [mu, hk]
  · simp [mu, h5]; omega
  · rw [mu_c (by decide), mu_c (by decide), mu_c (by decide), mu_ap, hkn]
    rw [List.length_append, List.length_singleton] at hi
    by_cases hi2 : i = pre.length
    · subst hi2; simp
    · rw [if_neg (by omega), h6 i (by omega)]
      rw [List.getD_eq_getElem?_getD, List.getD_eq_getElem?_getD, List.getElem?_append_left (by omega)]

set_option maxRecDepth 20000 in
theorem l_goExit {μ ν : Mem} {a t r been x k e : Int} {y : AV} {R : Int × Int × List Int} {X : ZX} (hX : isM X (fun w m => w = un ∧ WI μ m a R.2.1 R.2.2 R.1)) (hk : inR k) (he : ν 96 5 = e) (h0 : e = 1 ∨ e = 2 ∨ e = 3) (hw : WI μ ν a R.2.1 R.2.2 R.1) : V X mX9_goFromTo 42 [vr 96, vi a, vi t, vi r, vi been, vi x, vi k, y] [] ν := by
  refine V_iload (pc := 42) dX9_goFromTo_42 rfl ?_
  refine V_bipush (pc := 44) dX9_goFromTo_44 (by decide +kernel) ?_
  refine V_icmp_gt (pc := 46) (tgt := 173) dX9_goFromTo_46 (by decide) (by omega) (by decide) (fun h46 => ?_) (fun h46 => ?_)
  · refine V_vret (x := 0) hX dX9_goFromTo_173 rfl ?_
    exact ⟨rfl, hw⟩
  · refine V_aloadn (pc := 49) dX9_goFromTo_49 rfl ?_
    refine V_geti (r := 0) (pc := 50) dX9_goFromTo_50 fX9_23 zk_96 ?_
    rw [he]
    refine V_if_ne (pc := 53) (tgt := 173) dX9_goFromTo_53 (by decide) (by omega) (fun h53 => ?_) (fun h53 => ?_)
    · refine V_vret (x := 0) hX dX9_goFromTo_173 rfl ?_
      exact ⟨rfl, hw⟩
    · exfalso; omega

set_option maxRecDepth 20000 in
theorem l_goFromTo {μ : Mem} (hL : LOK μ 32) (hO : POK μ 80) (hA : ∀ p t, gArm μ 32 p t ≤ 5) {a t r : Int} (ha : inR a) (ht : inR t) (hr : inR r) {R : Int × Int × List Int} {X : ZX} (hX : isM X (fun w m => w = un ∧ WI μ m a R.2.1 R.2.2 R.1)) : ∀ (n : Nat) (x been ms : Int) (pre : List Int) (k : Int) (y : AV) (ν : Mem), (k + n = 10) → ((pre.length : Int) + 1 = k) → (WI μ ν a ms pre 0) → (inR been) → (inR x) → (((wk μ t r n x been ms).1, (wk μ t r n x been ms).2.1, pre ++ (wk μ t r n x been ms).2.2) = R) → V X mX9_goFromTo 42 [vr 96, vi a, vi t, vi r, vi been, vi x, vi k, y] [] ν := by
  intro n
  induction n with
  | zero =>
    intro x been ms pre k y ν h1 h2 hw hb hx hR
    refine V_iload (pc := 42) dX9_goFromTo_42 rfl ?_
    refine V_bipush (pc := 44) dX9_goFromTo_44 (by decide +kernel) ?_
    refine V_icmp_gt (pc := 46) (tgt := 173) dX9_goFromTo_46 (by decide) (by omega) (by decide) (fun h46 => ?_) (fun h46 => ?_)
    · refine V_vret (x := 0) hX dX9_goFromTo_173 rfl ?_
      exact ⟨rfl, by rw [← hR]; simpa [wk] using hw⟩
    · exfalso; omega
  | succ n ih =>
    intro x been ms pre k y ν h1 h2 hw hb hx hR
    have hg := hw.ag
    have hLn := LOK_ag hg hL
    have hOn := POK_ag hg hO
    have hAn : ∀ p t, gArm ν 32 p t ≤ 5 := fun p t => by rw [gArm_ag hg]; exact hA p t
    have g1 : inR (rT μ 80 x t r) := by unfold rT; split; decide; exact gRd_rg hL _ _
    have g2 := gBy_rg hL x (rT μ 80 x t r)
    refine V_iload (pc := 42) dX9_goFromTo_42 rfl ?_
    refine V_bipush (pc := 44) dX9_goFromTo_44 (by decide +kernel) ?_
    refine V_icmp_gt (pc := 46) (tgt := 173) dX9_goFromTo_46 (by decide) (by omega) (by decide) (fun h46 => ?_) (fun h46 => ?_)
    · exfalso; omega
    · refine V_aloadn (pc := 49) dX9_goFromTo_49 rfl ?_
      refine V_geti (r := 0) (pc := 50) dX9_goFromTo_50 fX9_23 zk_96 ?_
      rw [hw.2.1]
      refine V_if_ne (pc := 53) (tgt := 173) dX9_goFromTo_53 (by decide) (by omega) (fun h53 => ?_) (fun h53 => ?_)
      · exfalso; omega
      · refine V_aloadn (pc := 56) dX9_goFromTo_56 rfl ?_
        refine V_getr (pc := 57) dX9_goFromTo_57 fX9_19 zk_96 zr_96_1 ?_
        refine V_iload (pc := 60) dX9_goFromTo_60 rfl ?_
        refine V_iloadn (pc := 62) dX9_goFromTo_62 rfl ?_
        refine V_iloadn (pc := 63) dX9_goFromTo_63 rfl ?_
        refine V_cv3 (pc := 64) dX9_goFromTo_64 kX9_33 zk_80 (by decide) (Nat.le_of_ble_eq_true rfl) (s_roadToTake PostsAt_80 hLn hOn hAn hx ht hr) rfl ?_
        rw [rT_ag hg]
        refine V_istore_7 (pc := 67) dX9_goFromTo_67 (by decide) rfl ?_
        refine V_iload (pc := 69) dX9_goFromTo_69 rfl ?_
        refine V_iconst (pc := 71) dX9_goFromTo_71 ?_
        refine V_icmp_ne (pc := 72) (tgt := 83) dX9_goFromTo_72 (by decide) (by omega) (by decide) (fun h72 => ?_) (fun h72 => ?_)
        · refine V_aloadn (pc := 83) dX9_goFromTo_83 rfl ?_
          refine V_getr (pc := 84) dX9_goFromTo_84 fX9_15 zk_96 zr_96_0 ?_
          refine V_iload (pc := 87) dX9_goFromTo_87 rfl ?_
          refine V_iload (pc := 89) dX9_goFromTo_89 rfl ?_
          refine V_cv2 (pc := 91) dX9_goFromTo_91 kX9_39 zk_32 (by decide) (Nat.le_of_ble_eq_true rfl) (s_beyondRoad LandAt_32 hLn hx (by omega)) rfl ?_
          rw [gBy_ag hg]
          refine V_istore_5 (pc := 94) dX9_goFromTo_94 (by decide) rfl ?_
          refine V_aloadn (pc := 96) dX9_goFromTo_96 rfl ?_
          refine V_getr (pc := 97) dX9_goFromTo_97 fX9_9 zk_96 zr_96_2 ?_
          refine V_iload (pc := 100) dX9_goFromTo_100 rfl ?_
          refine V_iload (pc := 102) dX9_goFromTo_102 rfl ?_
          refine V_iast (pc := 104) dX9_goFromTo_104 zk_99 (by omega) (by omega) (by decide) ?_
          refine V_aloadn (pc := 105) dX9_goFromTo_105 rfl ?_
          refine V_iload (pc := 106) dX9_goFromTo_106 rfl ?_
          refine V_puti (pc := 108) dX9_goFromTo_108 fX9_30 zk_96 ?_
          refine V_aloadn (pc := 111) dX9_goFromTo_111 rfl ?_
          refine V_dup_r (pc := 112) dX9_goFromTo_112 ?_
          refine V_geti (r := 0) (pc := 113) dX9_goFromTo_113 fX9_27 zk_96 ?_
          rw [mu_j (by decide : (4 : Nat) ≠ 3)]
          rw [mu_c (by decide : (96 : Nat) ≠ 99)]
          rw [hw.2.2.1]
          refine V_aloadn (pc := 116) dX9_goFromTo_116 rfl ?_
          refine V_getr (pc := 117) dX9_goFromTo_117 fX9_15 zk_96 zr_96_0 ?_
          refine V_iload (pc := 120) dX9_goFromTo_120 rfl ?_
          refine V_cv1 (pc := 122) dX9_goFromTo_122 kX9_45 zk_32 (by decide) (Nat.le_of_ble_eq_true rfl) (s_roadMiles LandAt_32 (LOK_ag ((hg.mu (by decide)).mu (by decide)) hL) (by omega)) rfl ?_
          rw [gLn_ag ((hg.mu (by decide)).mu (by decide))]
          refine V_iadd (pc := 125) dX9_goFromTo_125 ?_
          refine V_puti (pc := 126) dX9_goFromTo_126 fX9_27 zk_96 ?_
          refine V_aloadn (pc := 129) dX9_goFromTo_129 rfl ?_
          refine V_iload (pc := 130) dX9_goFromTo_130 rfl ?_
          refine V_iloadn (pc := 132) dX9_goFromTo_132 rfl ?_
          refine V_icmp_ne (pc := 133) (tgt := 140) dX9_goFromTo_133 (by decide) (by omega) (by omega) (fun h133 => ?_) (fun h133 => ?_)
          · refine V_iload (pc := 140) dX9_goFromTo_140 rfl ?_
            refine V_iload (pc := 142) dX9_goFromTo_142 rfl ?_
            refine V_cn2 (pc := 144) dX9_goFromTo_144 kX9_49 (by decide) (Nat.le_of_ble_eq_true rfl) (s_isIn hb (by omega)) rfl ?_
            refine V_ifeq_b (pc := 147) (tgt := 154) dX9_goFromTo_147 (by decide) (fun h147 => ?_) (fun h147 => ?_)
            · refine V_iconst (pc := 154) dX9_goFromTo_154 ?_
              refine V_puti (pc := 155) dX9_goFromTo_155 fX9_23 zk_96 ?_
              refine V_iload (pc := 158) dX9_goFromTo_158 rfl ?_
              refine V_iconst (pc := 160) dX9_goFromTo_160 ?_
              refine V_iload (pc := 161) dX9_goFromTo_161 rfl ?_
              refine V_ishl (pc := 163) dX9_goFromTo_163 ?_
              refine V_ior (pc := 164) dX9_goFromTo_164 ?_
              refine V_istore_4 (pc := 165) dX9_goFromTo_165 (by decide) rfl ?_
              refine V_iinc_6 (pc := 167) dX9_goFromTo_167 (by decide) rfl ?_
              refine V_goto (pc := 170) (tgt := 42) dX9_goFromTo_170 (by decide) ?_
              first
                | exact ih _ _ _ (pre ++ [gBy μ 32 x (rT μ 80 x t r)]) _ _ _ (by omega) (by rw [List.length_append]; simp; omega) (WI_step hw (by omega)) (zi_rg _) (by omega) (by rw [← hR]; simp only [wk, if_neg (show ¬ rT μ 80 x t r = -1 by omega), if_neg (show ¬ gBy μ 32 x (rT μ 80 x t r) = t by omega), if_neg (show ¬ In been (gBy μ 32 x (rT μ 80 x t r)) by omega), List.append_assoc, List.singleton_append])
                | exact l_goExit (e := 2) hX (by omega) mu_h (by decide) (by rw [← hR]; simp only [wk, if_pos (show rT μ 80 x t r = -1 by omega)]; simpa using WI_lost hw)
                | exact l_goExit (e := 1) hX (by omega) mu_h (by decide) (by rw [← hR]; simp only [wk, if_neg (show ¬ rT μ 80 x t r = -1 by omega), if_pos (show gBy μ 32 x (rT μ 80 x t r) = t by omega)]; exact WI_step hw (by omega))
                | exact l_goExit (e := 3) hX (by omega) mu_h (by decide) (by rw [← hR]; simp only [wk, if_neg (show ¬ rT μ 80 x t r = -1 by omega), if_neg (show ¬ gBy μ 32 x (rT μ 80 x t r) = t by omega), if_pos (show In been (gBy μ 32 x (rT μ 80 x t r)) by omega)]; exact WI_step hw (by omega))
            · refine V_iconst (pc := 150) dX9_goFromTo_150 ?_
              refine V_goto (pc := 151) (tgt := 155) dX9_goFromTo_151 (by decide) ?_
              refine V_puti (pc := 155) dX9_goFromTo_155 fX9_23 zk_96 ?_
              refine V_iload (pc := 158) dX9_goFromTo_158 rfl ?_
              refine V_iconst (pc := 160) dX9_goFromTo_160 ?_
              refine V_iload (pc := 161) dX9_goFromTo_161 rfl ?_
              refine V_ishl (pc := 163) dX9_goFromTo_163 ?_
              refine V_ior (pc := 164) dX9_goFromTo_164 ?_
              refine V_istore_4 (pc := 165) dX9_goFromTo_165 (by decide) rfl ?_
              refine V_iinc_6 (pc := 167) dX9_goFromTo_167 (by decide) rfl ?_
              refine V_goto (pc := 170) (tgt := 42) dX9_goFromTo_170 (by decide) ?_
              first
                | exact ih _ _ _ (pre ++ [gBy μ 32 x (rT μ 80 x t r)]) _ _ _ (by omega) (by rw [List.length_append]; simp; omega) (WI_step hw (by omega)) (zi_rg _) (by omega) (by rw [← hR]; simp only [wk, if_neg (show ¬ rT μ 80 x t r = -1 by omega), if_neg (show ¬ gBy μ 32 x (rT μ 80 x t r) = t by omega), if_neg (show ¬ In been (gBy μ 32 x (rT μ 80 x t r)) by omega), List.append_assoc, List.singleton_append])
                | exact l_goExit (e := 2) hX (by omega) mu_h (by decide) (by rw [← hR]; simp only [wk, if_pos (show rT μ 80 x t r = -1 by omega)]; simpa using WI_lost hw)
                | exact l_goExit (e := 1) hX (by omega) mu_h (by decide) (by rw [← hR]; simp only [wk, if_neg (show ¬ rT μ 80 x t r = -1 by omega), if_pos (show gBy μ 32 x (rT μ 80 x t r) = t by omega)]; exact WI_step hw (by omega))
                | exact l_goExit (e := 3) hX (by omega) mu_h (by decide) (by rw [← hR]; simp only [wk, if_neg (show ¬ rT μ 80 x t r = -1 by omega), if_neg (show ¬ gBy μ 32 x (rT μ 80 x t r) = t by omega), if_pos (show In been (gBy μ 32 x (rT μ 80 x t r)) by omega)]; exact WI_step hw (by omega))
          · refine V_iconst (pc := 136) dX9_goFromTo_136 ?_
            refine V_goto (pc := 137) (tgt := 155) dX9_goFromTo_137 (by decide) ?_
            refine V_puti (pc := 155) dX9_goFromTo_155 fX9_23 zk_96 ?_
            refine V_iload (pc := 158) dX9_goFromTo_158 rfl ?_
            refine V_iconst (pc := 160) dX9_goFromTo_160 ?_
            refine V_iload (pc := 161) dX9_goFromTo_161 rfl ?_
            refine V_ishl (pc := 163) dX9_goFromTo_163 ?_
            refine V_ior (pc := 164) dX9_goFromTo_164 ?_
            refine V_istore_4 (pc := 165) dX9_goFromTo_165 (by decide) rfl ?_
            refine V_iinc_6 (pc := 167) dX9_goFromTo_167 (by decide) rfl ?_
            refine V_goto (pc := 170) (tgt := 42) dX9_goFromTo_170 (by decide) ?_
            first
              | exact ih _ _ _ (pre ++ [gBy μ 32 x (rT μ 80 x t r)]) _ _ _ (by omega) (by rw [List.length_append]; simp; omega) (WI_step hw (by omega)) (zi_rg _) (by omega) (by rw [← hR]; simp only [wk, if_neg (show ¬ rT μ 80 x t r = -1 by omega), if_neg (show ¬ gBy μ 32 x (rT μ 80 x t r) = t by omega), if_neg (show ¬ In been (gBy μ 32 x (rT μ 80 x t r)) by omega), List.append_assoc, List.singleton_append])
              | exact l_goExit (e := 2) hX (by omega) mu_h (by decide) (by rw [← hR]; simp only [wk, if_pos (show rT μ 80 x t r = -1 by omega)]; simpa using WI_lost hw)
              | exact l_goExit (e := 1) hX (by omega) mu_h (by decide) (by rw [← hR]; simp only [wk, if_neg (show ¬ rT μ 80 x t r = -1 by omega), if_pos (show gBy μ 32 x (rT μ 80 x t r) = t by omega)]; exact WI_step hw (by omega))
              | exact l_goExit (e := 3) hX (by omega) mu_h (by decide) (by rw [← hR]; simp only [wk, if_neg (show ¬ rT μ 80 x t r = -1 by omega), if_neg (show ¬ gBy μ 32 x (rT μ 80 x t r) = t by omega), if_pos (show In been (gBy μ 32 x (rT μ 80 x t r)) by omega)]; exact WI_step hw (by omega))
        · refine V_aloadn (pc := 75) dX9_goFromTo_75 rfl ?_
          refine V_iconst (pc := 76) dX9_goFromTo_76 ?_
          refine V_puti (pc := 77) dX9_goFromTo_77 fX9_23 zk_96 ?_
          refine V_goto (pc := 80) (tgt := 167) dX9_goFromTo_80 (by decide) ?_
          refine V_iinc_6 (pc := 167) dX9_goFromTo_167 (by decide) rfl ?_
          refine V_goto (pc := 170) (tgt := 42) dX9_goFromTo_170 (by decide) ?_
          first
            | exact ih _ _ _ (pre ++ [gBy μ 32 x (rT μ 80 x t r)]) _ _ _ (by omega) (by rw [List.length_append]; simp; omega) (WI_step hw (by omega)) (zi_rg _) (by omega) (by rw [← hR]; simp only [wk, if_neg (show ¬ rT μ 80 x t r = -1 by omega), if_neg (show ¬ gBy μ 32 x (rT μ 80 x t r) = t by omega), if_neg (show ¬ In been (gBy μ 32 x (rT μ 80 x t r)) by omega), List.append_assoc, List.singleton_append])
            | exact l_goExit (e := 2) hX (by omega) mu_h (by decide) (by rw [← hR]; simp only [wk, if_pos (show rT μ 80 x t r = -1 by omega)]; simpa using WI_lost hw)
            | exact l_goExit (e := 1) hX (by omega) mu_h (by decide) (by rw [← hR]; simp only [wk, if_neg (show ¬ rT μ 80 x t r = -1 by omega), if_pos (show gBy μ 32 x (rT μ 80 x t r) = t by omega)]; exact WI_step hw (by omega))
            | exact l_goExit (e := 3) hX (by omega) mu_h (by decide) (by rw [← hR]; simp only [wk, if_neg (show ¬ rT μ 80 x t r = -1 by omega), if_neg (show ¬ gBy μ 32 x (rT μ 80 x t r) = t by omega), if_pos (show In been (gBy μ 32 x (rT μ 80 x t r)) by omega)]; exact WI_step hw (by omega))

set_option maxRecDepth 20000 in
theorem s_goFromTo {μ : Mem} (hL : LOK μ 32) (hO : POK μ 80) (hA : ∀ p t, gArm μ 32 p t ≤ 5) {a t r : Int} (ha : inR a) (ht : inR t) (hr : inR r) : SP mX9_goFromTo [vr 96, vi a, vi t, vi r] μ (fun w m => w = un ∧ WI μ m a (wkF μ a t r).2.1 (wkF μ a t r).2.2 (wkF μ a t r).1) := by
  refine SP_intro (ls := [vr 96, vi a, vi t, vi r, un, un, un, un]) (by decide +kernel) rfl rfl (Nat.le_of_ble_eq_true rfl) rfl (fun X hX => ?_)
  refine V_aloadn (pc := 0) dX9_goFromTo_0 rfl ?_
  refine V_getr (pc := 1) dX9_goFromTo_1 fX9_9 zk_96 zr_96_2 ?_
  refine V_iconst (pc := 4) dX9_goFromTo_4 ?_
  refine V_iloadn (pc := 5) dX9_goFromTo_5 rfl ?_
  refine V_iast (pc := 6) dX9_goFromTo_6 zk_99 (by omega) (by omega) (by decide) ?_
  refine V_aloadn (pc := 7) dX9_goFromTo_7 rfl ?_
  refine V_iconst (pc := 8) dX9_goFromTo_8 ?_
  refine V_puti (pc := 9) dX9_goFromTo_9 fX9_30 zk_96 ?_
  refine V_aloadn (pc := 12) dX9_goFromTo_12 rfl ?_
  refine V_iconst (pc := 13) dX9_goFromTo_13 ?_
  refine V_puti (pc := 14) dX9_goFromTo_14 fX9_27 zk_96 ?_
  refine V_aloadn (pc := 17) dX9_goFromTo_17 rfl ?_
  refine V_iloadn (pc := 18) dX9_goFromTo_18 rfl ?_
  refine V_iloadn (pc := 19) dX9_goFromTo_19 rfl ?_
  refine V_icmp_ne (pc := 20) (tgt := 27) dX9_goFromTo_20 (by decide) (by omega) (by omega) (fun h20 => ?_) (fun h20 => ?_)
  · refine V_iconst (pc := 27) dX9_goFromTo_27 ?_
    refine V_puti (pc := 28) dX9_goFromTo_28 fX9_23 zk_96 ?_
    refine V_iconst (pc := 31) dX9_goFromTo_31 ?_
    refine V_iloadn (pc := 32) dX9_goFromTo_32 rfl ?_
    refine V_ishl (pc := 33) dX9_goFromTo_33 ?_
    refine V_istore_4 (pc := 34) dX9_goFromTo_34 (by decide) rfl ?_
    refine V_iloadn (pc := 36) dX9_goFromTo_36 rfl ?_
    refine V_istore_5 (pc := 37) dX9_goFromTo_37 (by decide) rfl ?_
    refine V_iconst (pc := 39) dX9_goFromTo_39 ?_
    refine V_istore_6 (pc := 40) dX9_goFromTo_40 (by decide) rfl ?_
    first
      | exact l_goFromTo hL hO hA ha ht hr hX 9 _ _ 0 [] _ _ _ (by omega) (by simp) (WI_init μ a 0) (zi_rg _) ha (by unfold wkF; rw [if_neg (by omega)]; simp)
      | exact l_goExit (e := 1) hX (by omega) mu_h (by decide) (by unfold wkF; rw [if_pos (by omega)]; exact WI_init μ a 1)
  · refine V_iconst (pc := 23) dX9_goFromTo_23 ?_
    refine V_goto (pc := 24) (tgt := 28) dX9_goFromTo_24 (by decide) ?_
    refine V_puti (pc := 28) dX9_goFromTo_28 fX9_23 zk_96 ?_
    refine V_iconst (pc := 31) dX9_goFromTo_31 ?_
    refine V_iloadn (pc := 32) dX9_goFromTo_32 rfl ?_
    refine V_ishl (pc := 33) dX9_goFromTo_33 ?_
    refine V_istore_4 (pc := 34) dX9_goFromTo_34 (by decide) rfl ?_
    refine V_iloadn (pc := 36) dX9_goFromTo_36 rfl ?_
    refine V_istore_5 (pc := 37) dX9_goFromTo_37 (by decide) rfl ?_
    refine V_iconst (pc := 39) dX9_goFromTo_39 ?_
    refine V_istore_6 (pc := 40) dX9_goFromTo_40 (by decide) rfl ?_
    first
      | exact l_goFromTo hL hO hA ha ht hr hX 9 _ _ 0 [] _ _ _ (by omega) (by simp) (WI_init μ a 0) (zi_rg _) ha (by unfold wkF; rw [if_neg (by omega)]; simp)
      | exact l_goExit (e := 1) hX (by omega) mu_h (by decide) (by unfold wkF; rw [if_pos (by omega)]; exact WI_init μ a 1)


/-- what reading may change -/
def FPm (μ ν : Mem) : Prop := (∀ c, c ≠ 256 → (c < 284 ∨ 290 < c) → ν c = μ c) ∧ ∀ j, (j < 19 ∨ (26 < j ∧ j ≠ 30)) → ν 256 j = μ 256 j
theorem FPm.rf (μ : Mem) : FPm μ μ := ⟨fun _ _ _ => rfl, fun _ _ => rfl⟩
theorem FPm.tr {μ ν ξ : Mem} (h : FPm μ ν) (h2 : FPm ν ξ) : FPm μ ξ := ⟨fun c a b => (h2.1 c a b).trans (h.1 c a b), fun j a => (h2.2 j a).trans (h.2 j a)⟩
theorem FPm.mj {μ ν : Mem} (h : FPm μ ν) {j : Nat} {v : Int} (hj : (19 ≤ j ∧ j ≤ 26) ∨ j = 30) : FPm μ (mu ν 256 j v) := ⟨fun c a b => (mu_ne a).trans (h.1 c a b), fun i hi => (mu_j (by omega)).trans (h.2 i hi)⟩
theorem FPm.mc {μ ν : Mem} (h : FPm μ ν) {c j : Nat} {v : Int} (hc : 284 ≤ c ∧ c ≤ 290) : FPm μ (mu ν c j v) := ⟨fun d a b => (mu_ne (by omega)).trans (h.1 d a b), fun i hi => (mu_c (by omega)).trans (h.2 i hi)⟩
theorem FP_he (μ : Mem) : FPm μ (heM μ) := (FPm.rf μ).mj (by decide)
theorem FP_tk (μ : Mem) (l g : Int) : FPm μ (tkN μ l g).2 := by
  have e : FPm μ (nmM μ) := (((FP_he μ).mj (by decide)).mj (by decide)).mj (by decide)
  unfold tkN
  split
  · exact (FP_he μ).mj (by decide)
  · split
    · exact e.mj (by decide)
    · exact e
theorem FP_in (μ : Mem) {c : Nat} (hc : 284 ≤ c ∧ c ≤ 290) (k l g : Int) : FPm μ (inTo μ c k l g).2 := (FP_tk μ l g).mc hc
theorem FP_R2 (μ : Mem) : FPm μ (tR2 μ).2 := by
  unfold tR2
  split
  · exact FP_in μ (by decide) _ _ _
  · exact (FP_in μ (by decide) _ _ _).tr (FP_in _ (by decide) _ _ _)
theorem FP_T2 (μ : Mem) : FPm μ (tT2 μ).2 := by
  unfold tT2
  split
  · exact FP_in μ (by decide) _ _ _
  · exact (FP_in μ (by decide) _ _ _).tr (FP_in _ (by decide) _ _ _)
theorem FP_R (μ : Mem) : FPm μ (tkR μ).2 := by
  unfold tkR
  split
  · exact FP_R2 μ
  · unfold tR3
    split
    · exact ((FP_R2 μ).tr (FP_in _ (by decide) _ _ _)).mj (by decide)
    · exact (FP_R2 μ).mj (by decide)
theorem FP_T (μ : Mem) : FPm μ (tkT μ).2 := by
  unfold tkT
  split
  · exact FP_T2 μ
  · unfold tT3
    split
    · exact (FP_T2 μ).mj (by decide)
    · exact ((FP_T2 μ).mj (by decide)).tr (FP_in _ (by decide) _ _ _)
theorem MX_R {μ : Mem} (h : MPI μ) : MX (tkR μ).2 := by
  unfold tkR
  have g := (tR2_r h).1
  split
  · exact g
  · unfold tR3
    split
    · exact MX_mu (MX_in g (by decide) _ _ _) (by decide) (by decide)
    · exact MX_mu g (by decide) (by decide)
theorem MX_T {μ : Mem} (h : MPI μ) : MX (tkT μ).2 := by
  unfold tkT
  have g := (tT2_r h).1
  split
  · exact g
  · unfold tT3
    split
    · exact MX_mu g (by decide) (by decide)
    · exact MX_in (MX_mu g (by decide) (by decide)) (by decide) _ _ _
/-- the place never goes back -/
theorem tk_20 {μ : Mem} (h : MX μ) (l g : Int) : μ 256 20 ≤ (tkN μ l g).2 256 20 := by
  have g1 := hB_rg h
  have g2 := hE_rg h
  unfold tkN
  split
  · dsimp only
    rw [mu_j (by decide), heM_20]; omega
  · split
    · dsimp only
      rw [mu_j (by decide), nmM_20]; omega
    · dsimp only
      rw [nmM_20]; omega
theorem in_20 {μ : Mem} (h : MX μ) {c : Nat} (hc : 284 ≤ c) (k l g : Int) : μ 256 20 ≤ (inTo μ c k l g).2 256 20 := by
  unfold inTo
  dsimp only
  rw [mu_c (by omega)]
  exact tk_20 h l g
theorem R2_20 {μ : Mem} (h : MPI μ) : μ 256 20 ≤ (tR2 μ).2 256 20 := by
  unfold tR2
  have g1 := in_20 h.1 (c := 284) (by decide) (μ 256 26) 0 (μ 256 25 - 1)
  split
  · exact g1
  · exact Int.le_trans g1 (in_20 (MX_in h.1 (by decide) _ _ _) (by decide) _ _ _)
theorem T2_20 {μ : Mem} (h : MPI μ) : μ 256 20 ≤ (tT2 μ).2 256 20 := by
  unfold tT2
  have g1 := in_20 h.1 (c := 288) (by decide) (μ 256 30) 0 (μ 256 25 - 1)
  split
  · exact g1
  · exact Int.le_trans g1 (in_20 (MX_in h.1 (by decide) _ _ _) (by decide) _ _ _)
theorem R_20 {μ : Mem} (h : MPI μ) : μ 256 20 ≤ (tkR μ).2 256 20 := by
  unfold tkR
  have g := (tR2_r h).1
  split
  · exact R2_20 h
  · unfold tR3
    split
    · dsimp only
      rw [mu_j (by decide)]
      exact Int.le_trans (R2_20 h) (in_20 g (by decide) _ _ _)
    · dsimp only
      rw [mu_j (by decide)]
      exact R2_20 h
theorem T_20 {μ : Mem} (h : MPI μ) : μ 256 20 ≤ (tkT μ).2 256 20 := by
  unfold tkT
  have g := (tT2_r h).1
  split
  · exact T2_20 h
  · unfold tT3
    split
    · dsimp only
      rw [mu_j (by decide)]
      exact T2_20 h
    · have := in_20 (MX_mu g (j := 30) (v := (tT2 μ).2 256 30 + 1) (by decide) (by decide)) (c := 290) (by decide) (μ 256 30) 1 99
      rw [mu_j (by decide)] at this
      exact Int.le_trans (T2_20 h) this
/-- a road that was read -/
theorem R_ok {μ : Mem} (h : MPI μ) (hk : μ 256 26 < 14) (h0 : (tkR μ).1 = 0) : RW (tkR μ).2 := by
  have g := tR2_r h
  unfold tkR at h0 ⊢
  split
  · rename_i q
    rw [if_pos q] at h0
    omega
  · rename_i q
    rw [if_neg q] at h0
    have e := tR2_ok q
    have hp := h.2.2.1
    have hr := h.2.1.1
    unfold tR3 at h0 ⊢
    split
    · rename_i q2
      have w1 := g.2.1
      have e26 : (inTo (tR2 μ).2 286 (μ 256 26) 1 99).2 256 26 = μ 256 26 := (inTo_j (by decide) (by decide)).trans g.2.2.1
      have e284 : (inTo (tR2 μ).2 286 (μ 256 26) 1 99).2 284 = (tR2 μ).2 284 := inTo_c (by decide) (by decide)
      have e285 : (inTo (tR2 μ).2 286 (μ 256 26) 1 99).2 285 = (tR2 μ).2 285 := inTo_c (by decide) (by decide)
      refine ⟨?_, fun r hr2 => ?_⟩
      · dsimp only
        rw [mu_h, e26]; omega
      · dsimp only at hr2
        rw [mu_h, e26] at hr2
        dsimp only
        rw [mu_c (by decide), mu_c (by decide), e284, e285]
        by_cases er : r = (μ 256 26).toNat
        · subst er; omega
        · exact w1.2 r (by rw [g.2.2.1]; omega)
    · rename_i q2
      rw [if_neg q2] at h0
      cases h0

def kdF (μ : Mem) : Int := if hS μ = 235981828 then 0 else if hS μ = 365260 then 1 else if hS μ = 148870 then 2 else -1
theorem kd_rg (μ : Mem) : kdF μ = -1 ∨ kdF μ = 0 ∨ kdF μ = 1 ∨ kdF μ = 2 := by
  unfold kdF
  split
  · omega
  · split
    · omega
    · split <;> omega
def tCe (p : Int × Mem) : Int × Mem := if p.1 = 0 then (if sgm p.2 (hB p.2) = 59 then (0, mu (heM p.2) 256 20 (hB p.2 + 1)) else (1, mu (heM p.2) 256 19 (hB p.2))) else (p.1, mu p.2 256 20 (p.2 256 20 + 1))
def tCm (ν : Mem) : Mem := mu ν 256 20 (ν 256 22)
def tC0 (ν : Mem) : Int × Mem := ((tkN (tCm ν) 1 9).1, mu (tkN (tCm ν) 1 9).2 256 25 ((tkN (tCm ν) 1 9).2 256 23))
def tCp (ν : Mem) (k : Int) : Int × Mem := if k = 0 then tC0 ν else if k = 1 then tkR (tCm ν) else tkT (tCm ν)
abbrev tCa (ν : Mem) (k : Int) : Prop := k < 0 ∨ (0 < k ∧ ν 256 25 = 0)
abbrev tCb (ν : Mem) (k : Int) : Prop := (k = 0 ∧ 0 < ν 256 25) ∨ (k = 1 ∧ ν 256 26 = 14) ∨ (k = 2 ∧ ν 256 30 = 20)
def tC (ν : Mem) (k : Int) : Int × Mem := if tCa ν k then (1, mu ν 256 19 (ν 256 20)) else if tCb ν k then (3, mu ν 256 19 (ν 256 20)) else tCe (tCp ν k)
theorem tC_a {ν : Mem} {k : Int} (h : tCa ν k) : tC ν k = (1, mu ν 256 19 (ν 256 20)) := if_pos h
theorem tC_b {ν : Mem} {k : Int} (h : ¬ tCa ν k) (h2 : tCb ν k) : tC ν k = (3, mu ν 256 19 (ν 256 20)) := by unfold tC; rw [if_neg h, if_pos h2]
theorem tC_c {ν : Mem} {k : Int} (h : ¬ tCa ν k) (h2 : ¬ tCb ν k) : tC ν k = tCe (tCp ν k) := by unfold tC; rw [if_neg h, if_neg h2]
def wOk (ν : Mem) : Prop := MPI ν ∧ ν 256 20 ≤ ν 256 22 ∧ ν 256 22 ≤ ν 256 18
theorem MPI_m {ν : Mem} (h : wOk ν) : MPI (tCm ν) := by
  obtain ⟨⟨h1, h2, h3, h4⟩, h5, h6⟩ := h
  have h7 := h1.2.2
  refine ⟨MX_20 h1 (by omega), ?_, ?_, ?_⟩
  · unfold RW tCm; rw [mu_j (by decide), mu_ne (by decide), mu_ne (by decide)]; exact h2
  · unfold tCm; rw [mu_j (by decide)]; exact h3
  · unfold tCm; rw [mu_j (by decide)]; exact h4
theorem tCm_j {ν : Mem} {j : Nat} (h : j ≠ 20) : tCm ν 256 j = ν 256 j := mu_j h
theorem MX_p {ν : Mem} (h : wOk ν) (k : Int) : MX (tCp ν k).2 := by
  have g := MPI_m h
  unfold tCp
  split
  · exact MX_mu (MX_tk g.1 1 9) (by decide) (by decide)
  · split
    · exact MX_R g
    · exact MX_T g
theorem p_20 {ν : Mem} (h : wOk ν) (k : Int) : ν 256 22 ≤ (tCp ν k).2 256 20 := by
  have g := MPI_m h
  have e : tCm ν 256 20 = ν 256 22 := mu_h
  rw [← e]
  unfold tCp
  split
  · unfold tC0
    dsimp only
    rw [mu_j (by decide)]
    exact tk_20 g.1 1 9
  · split
    · exact R_20 g
    · exact T_20 g
theorem FP_p (ν : Mem) (k : Int) : FPm ν (tCp ν k).2 := by
  have e : FPm ν (tCm ν) := (FPm.rf ν).mj (by decide)
  unfold tCp
  split
  · exact (e.tr (FP_tk _ _ _)).mj (by decide)
  · split
    · exact e.tr (FP_R _)
    · exact e.tr (FP_T _)
theorem FP_e (p : Int × Mem) : FPm p.2 (tCe p).2 := by
  unfold tCe
  split
  · split
    · exact (FP_he _).mj (by decide)
    · exact (FP_he _).mj (by decide)
  · exact (FPm.rf _).mj (by decide)
theorem FP_C (ν : Mem) (k : Int) : FPm ν (tC ν k).2 := by
  unfold tC
  split
  · exact (FPm.rf _).mj (by decide)
  · split
    · exact (FPm.rf _).mj (by decide)
    · exact (FP_p ν k).tr (FP_e _)

section
variable {X : ZX}
set_option maxRecDepth 20000 in
theorem l_cl224 {p : Int × Mem} (h : MX p.2) (hp : inR p.1) {k : Int} (hX : isM X (fun w m => w = vi (tCe p).1 ∧ m = (tCe p).2)) : V X mX12_takeClause 224 [vr 256, vi k, vi p.1] [] p.2 := by
  have s0 := sgm_r h (hB p.2)
  refine V_iloadn (pc := 224) dX12_takeClause_224 rfl ?_
  refine V_if_ne (pc := 225) (tgt := 247) dX12_takeClause_225 (by decide) (by omega) (fun h225 => ?_) (fun h225 => ?_)
  · refine V_aloadn (pc := 247) dX12_takeClause_247 rfl ?_
    refine V_dup_r (pc := 248) dX12_takeClause_248 ?_
    refine V_geti (r := 0) (pc := 249) dX12_takeClause_249 fX12_138 zk_256 ?_
    try rw [heM_20]
    refine V_iconst (pc := 252) dX12_takeClause_252 ?_
    refine V_iadd (pc := 253) dX12_takeClause_253 ?_
    refine V_puti (pc := 254) dX12_takeClause_254 fX12_138 zk_256 ?_
    refine V_iloadn (pc := 257) dX12_takeClause_257 rfl ?_
    refine V_iret hX dX12_takeClause_258 rfl ?_
    first
      | (rw [show tCe p = (0, mu (heM p.2) 256 20 (hB p.2 + 1)) by unfold tCe; rw [if_pos (by omega), if_pos (by omega)]]; exact ⟨congrArg vi (by omega), rfl⟩)
      | (rw [show tCe p = (p.1, mu p.2 256 20 (p.2 256 20 + 1)) by unfold tCe; rw [if_neg (by omega)]]; exact ⟨rfl, rfl⟩)
  · refine V_aloadn (pc := 228) dX12_takeClause_228 rfl ?_
    refine V_cv0 (pc := 229) dX12_takeClause_229 kX12_141 zk_256 (by decide) (Nat.le_of_ble_eq_true rfl) (r_here h) rfl ?_
    refine V_bipush (pc := 232) dX12_takeClause_232 (by decide +kernel) ?_
    refine V_icmp_eq (pc := 234) (tgt := 247) dX12_takeClause_234 (by decide) (by omega) (by decide) (fun h234 => ?_) (fun h234 => ?_)
    · refine V_aloadn (pc := 247) dX12_takeClause_247 rfl ?_
      refine V_dup_r (pc := 248) dX12_takeClause_248 ?_
      refine V_geti (r := 0) (pc := 249) dX12_takeClause_249 fX12_138 zk_256 ?_
      try rw [heM_20]
      refine V_iconst (pc := 252) dX12_takeClause_252 ?_
      refine V_iadd (pc := 253) dX12_takeClause_253 ?_
      refine V_puti (pc := 254) dX12_takeClause_254 fX12_138 zk_256 ?_
      refine V_iloadn (pc := 257) dX12_takeClause_257 rfl ?_
      refine V_iret hX dX12_takeClause_258 rfl ?_
      first
        | (rw [show tCe p = (0, mu (heM p.2) 256 20 (hB p.2 + 1)) by unfold tCe; rw [if_pos (by omega), if_pos (by omega)]]; exact ⟨congrArg vi (by omega), rfl⟩)
        | (rw [show tCe p = (p.1, mu p.2 256 20 (p.2 256 20 + 1)) by unfold tCe; rw [if_neg (by omega)]]; exact ⟨rfl, rfl⟩)
    · refine V_aloadn (pc := 237) dX12_takeClause_237 rfl ?_
      refine V_iconst (pc := 238) dX12_takeClause_238 ?_
      refine V_aloadn (pc := 239) dX12_takeClause_239 rfl ?_
      refine V_geti (r := 0) (pc := 240) dX12_takeClause_240 fX12_138 zk_256 ?_
      rw [heM_20]
      refine V_cv2 (pc := 243) dX12_takeClause_243 kX12_168 zk_256 (by decide) (Nat.le_of_ble_eq_true rfl) (r_fails) rfl ?_
      refine V_iret hX dX12_takeClause_246 rfl ?_
      rw [show tCe p = (1, mu (heM p.2) 256 19 (hB p.2)) by unfold tCe; rw [if_pos (by omega), if_neg (by omega)]]
      exact ⟨rfl, rfl⟩

theorem tCp_f {ν : Mem} (h : wOk ν) (k : Int) : inR (tCp ν k).1 := by
  have g := MPI_m h
  unfold tCp
  split
  · have := tkN_f (tCm ν) 1 9
    unfold tC0
    show inR (tkN (tCm ν) 1 9).1
    omega
  · split
    · unfold tkR
      have := (tR2_r g).2.2.2
      split
      · omega
      · unfold tR3
        split
        · have := inTo_f (tR2 (tCm ν)).2 286 (tCm ν 256 26) 1 99
          dsimp only
          omega
        · show inR 4
          decide
    · unfold tkT
      have := (tT2_r g).2.2
      split
      · omega
      · unfold tT3
        split
        · show inR 4
          decide
        · have := inTo_f (mu (tT2 (tCm ν)).2 256 30 ((tT2 (tCm ν)).2 256 30 + 1)) 290 (tCm ν 256 30) 1 99
          omega

set_option maxRecDepth 20000 in
theorem l_cl98 {ν : Mem} (h : wOk ν) {k : Int} (hk : k = -1 ∨ k = 0 ∨ k = 1 ∨ k = 2) (hX : isM X (fun w m => w = vi (tC ν k).1 ∧ m = (tC ν k).2)) : V X mX12_takeClause 98 [vr 256, un, un] [vi k] ν := by
  have g := MPI_m h
  obtain ⟨⟨h1, h2, h3, h4⟩, h5, h6⟩ := id h
  have h7 := h2.1
  refine V_istore_1 (pc := 98) dX12_takeClause_98 (by decide) rfl ?_
  refine V_iloadn (pc := 99) dX12_takeClause_99 rfl ?_
  refine V_if_lt (pc := 100) (tgt := 114) dX12_takeClause_100 (by decide) (by omega) (fun h100 => ?_) (fun h100 => ?_)
  · refine V_aloadn (pc := 114) dX12_takeClause_114 rfl ?_
    refine V_iconst (pc := 115) dX12_takeClause_115 ?_
    refine V_aloadn (pc := 116) dX12_takeClause_116 rfl ?_
    refine V_geti (r := 0) (pc := 117) dX12_takeClause_117 fX12_138 zk_256 ?_
    refine V_cv2 (pc := 120) dX12_takeClause_120 kX12_168 zk_256 (by decide) (Nat.le_of_ble_eq_true rfl) (r_fails) rfl ?_
    refine V_iret hX dX12_takeClause_123 rfl ?_
    rw [tC_a (by omega)]
    exact ⟨rfl, rfl⟩
  · refine V_iloadn (pc := 103) dX12_takeClause_103 rfl ?_
    refine V_if_le (pc := 104) (tgt := 124) dX12_takeClause_104 (by decide) (by omega) (fun h104 => ?_) (fun h104 => ?_)
    · refine V_iloadn (pc := 124) dX12_takeClause_124 rfl ?_
      refine V_if_ne (pc := 125) (tgt := 138) dX12_takeClause_125 (by decide) (by omega) (fun h125 => ?_) (fun h125 => ?_)
      · refine V_iloadn (pc := 138) dX12_takeClause_138 rfl ?_
        refine V_iconst (pc := 139) dX12_takeClause_139 ?_
        refine V_icmp_ne (pc := 140) (tgt := 155) dX12_takeClause_140 (by decide) (by omega) (by decide) (fun h140 => ?_) (fun h140 => ?_)
        · refine V_aloadn (pc := 155) dX12_takeClause_155 rfl ?_
          refine V_geti (r := 0) (pc := 156) dX12_takeClause_156 fX12_195 zk_256 ?_
          refine V_bipush (pc := 159) dX12_takeClause_159 (by decide +kernel) ?_
          refine V_icmp_ne (pc := 161) (tgt := 174) dX12_takeClause_161 (by decide) (by omega) (by decide) (fun h161 => ?_) (fun h161 => ?_)
          · refine V_aloadn (pc := 174) dX12_takeClause_174 rfl ?_
            refine V_aloadn (pc := 175) dX12_takeClause_175 rfl ?_
            refine V_geti (r := 0) (pc := 176) dX12_takeClause_176 fX12_149 zk_256 ?_
            refine V_puti (pc := 179) dX12_takeClause_179 fX12_138 zk_256 ?_
            refine V_iconst (pc := 182) dX12_takeClause_182 ?_
            refine V_istore_2 (pc := 183) dX12_takeClause_183 (by decide) rfl ?_
            refine V_iloadn (pc := 184) dX12_takeClause_184 rfl ?_
            refine V_if_ne (pc := 185) (tgt := 207) dX12_takeClause_185 (by decide) (by omega) (fun h185 => ?_) (fun h185 => ?_)
            · refine V_iloadn (pc := 207) dX12_takeClause_207 rfl ?_
              refine V_iconst (pc := 208) dX12_takeClause_208 ?_
              refine V_icmp_ne (pc := 209) (tgt := 219) dX12_takeClause_209 (by decide) (by omega) (by decide) (fun h209 => ?_) (fun h209 => ?_)
              · refine V_aloadn (pc := 219) dX12_takeClause_219 rfl ?_
                refine V_cv0 (pc := 220) dX12_takeClause_220 kX12_212 zk_256 (by decide) (Nat.le_of_ble_eq_true rfl) (r_takeTravel g (by rw [mu_j (by decide)]; omega)) rfl ?_
                refine V_istore_2 (pc := 223) dX12_takeClause_223 (by decide) rfl ?_
                have eq : tC ν k = tCe (tCp ν k) := tC_c (by omega) (by omega)
                rw [eq] at hX
                have e := l_cl224 (X := X) (p := tCp ν k) (MX_p h k) (tCp_f h k) (k := k) hX
                first
                  | (rw [show tCp ν k = tC0 ν from if_pos (by omega)] at e; exact e)
                  | (rw [show tCp ν k = tkR (tCm ν) from (if_neg (by omega)).trans (if_pos (by omega))] at e; exact e)
                  | (rw [show tCp ν k = tkT (tCm ν) from (if_neg (by omega)).trans (if_neg (by omega))] at e; exact e)
              · refine V_aloadn (pc := 212) dX12_takeClause_212 rfl ?_
                refine V_cv0 (pc := 213) dX12_takeClause_213 kX12_209 zk_256 (by decide) (Nat.le_of_ble_eq_true rfl) (r_takeRoad g (by rw [mu_j (by decide)]; omega)) rfl ?_
                refine V_goto (pc := 216) (tgt := 223) dX12_takeClause_216 (by decide) ?_
                refine V_istore_2 (pc := 223) dX12_takeClause_223 (by decide) rfl ?_
                have eq : tC ν k = tCe (tCp ν k) := tC_c (by omega) (by omega)
                rw [eq] at hX
                have e := l_cl224 (X := X) (p := tCp ν k) (MX_p h k) (tCp_f h k) (k := k) hX
                first
                  | (rw [show tCp ν k = tC0 ν from if_pos (by omega)] at e; exact e)
                  | (rw [show tCp ν k = tkR (tCm ν) from (if_neg (by omega)).trans (if_pos (by omega))] at e; exact e)
                  | (rw [show tCp ν k = tkT (tCm ν) from (if_neg (by omega)).trans (if_neg (by omega))] at e; exact e)
            · refine V_aloadn (pc := 188) dX12_takeClause_188 rfl ?_
              refine V_iconst (pc := 189) dX12_takeClause_189 ?_
              refine V_bipush (pc := 190) dX12_takeClause_190 (by decide +kernel) ?_
              refine V_cv2 (pc := 192) dX12_takeClause_192 kX12_178 zk_256 (by decide) (Nat.le_of_ble_eq_true rfl) (r_takeNumber g.1 (by decide) (by decide)) rfl ?_
              refine V_istore_2 (pc := 195) dX12_takeClause_195 (by decide) rfl ?_
              refine V_aloadn (pc := 196) dX12_takeClause_196 rfl ?_
              refine V_aloadn (pc := 197) dX12_takeClause_197 rfl ?_
              refine V_geti (r := 0) (pc := 198) dX12_takeClause_198 fX12_175 zk_256 ?_
              refine V_puti (pc := 201) dX12_takeClause_201 fX12_184 zk_256 ?_
              refine V_goto (pc := 204) (tgt := 224) dX12_takeClause_204 (by decide) ?_
              have eq : tC ν k = tCe (tCp ν k) := tC_c (by omega) (by omega)
              rw [eq] at hX
              have e := l_cl224 (X := X) (p := tCp ν k) (MX_p h k) (tCp_f h k) (k := k) hX
              first
                | (rw [show tCp ν k = tC0 ν from if_pos (by omega)] at e; exact e)
                | (rw [show tCp ν k = tkR (tCm ν) from (if_neg (by omega)).trans (if_pos (by omega))] at e; exact e)
                | (rw [show tCp ν k = tkT (tCm ν) from (if_neg (by omega)).trans (if_neg (by omega))] at e; exact e)
          · refine V_aloadn (pc := 164) dX12_takeClause_164 rfl ?_
            refine V_iconst (pc := 165) dX12_takeClause_165 ?_
            refine V_aloadn (pc := 166) dX12_takeClause_166 rfl ?_
            refine V_geti (r := 0) (pc := 167) dX12_takeClause_167 fX12_138 zk_256 ?_
            refine V_cv2 (pc := 170) dX12_takeClause_170 kX12_168 zk_256 (by decide) (Nat.le_of_ble_eq_true rfl) (r_fails) rfl ?_
            refine V_iret hX dX12_takeClause_173 rfl ?_
            rw [tC_b (by omega) (by omega)]
            exact ⟨rfl, rfl⟩
        · refine V_aloadn (pc := 143) dX12_takeClause_143 rfl ?_
          refine V_geti (r := 0) (pc := 144) dX12_takeClause_144 fX12_181 zk_256 ?_
          refine V_bipush (pc := 147) dX12_takeClause_147 (by decide +kernel) ?_
          refine V_icmp_ne (pc := 149) (tgt := 174) dX12_takeClause_149 (by decide) (by omega) (by decide) (fun h149 => ?_) (fun h149 => ?_)
          · refine V_aloadn (pc := 174) dX12_takeClause_174 rfl ?_
            refine V_aloadn (pc := 175) dX12_takeClause_175 rfl ?_
            refine V_geti (r := 0) (pc := 176) dX12_takeClause_176 fX12_149 zk_256 ?_
            refine V_puti (pc := 179) dX12_takeClause_179 fX12_138 zk_256 ?_
            refine V_iconst (pc := 182) dX12_takeClause_182 ?_
            refine V_istore_2 (pc := 183) dX12_takeClause_183 (by decide) rfl ?_
            refine V_iloadn (pc := 184) dX12_takeClause_184 rfl ?_
            refine V_if_ne (pc := 185) (tgt := 207) dX12_takeClause_185 (by decide) (by omega) (fun h185 => ?_) (fun h185 => ?_)
            · refine V_iloadn (pc := 207) dX12_takeClause_207 rfl ?_
              refine V_iconst (pc := 208) dX12_takeClause_208 ?_
              refine V_icmp_ne (pc := 209) (tgt := 219) dX12_takeClause_209 (by decide) (by omega) (by decide) (fun h209 => ?_) (fun h209 => ?_)
              · refine V_aloadn (pc := 219) dX12_takeClause_219 rfl ?_
                refine V_cv0 (pc := 220) dX12_takeClause_220 kX12_212 zk_256 (by decide) (Nat.le_of_ble_eq_true rfl) (r_takeTravel g (by rw [mu_j (by decide)]; omega)) rfl ?_
                refine V_istore_2 (pc := 223) dX12_takeClause_223 (by decide) rfl ?_
                have eq : tC ν k = tCe (tCp ν k) := tC_c (by omega) (by omega)
                rw [eq] at hX
                have e := l_cl224 (X := X) (p := tCp ν k) (MX_p h k) (tCp_f h k) (k := k) hX
                first
                  | (rw [show tCp ν k = tC0 ν from if_pos (by omega)] at e; exact e)
                  | (rw [show tCp ν k = tkR (tCm ν) from (if_neg (by omega)).trans (if_pos (by omega))] at e; exact e)
                  | (rw [show tCp ν k = tkT (tCm ν) from (if_neg (by omega)).trans (if_neg (by omega))] at e; exact e)
              · refine V_aloadn (pc := 212) dX12_takeClause_212 rfl ?_
                refine V_cv0 (pc := 213) dX12_takeClause_213 kX12_209 zk_256 (by decide) (Nat.le_of_ble_eq_true rfl) (r_takeRoad g (by rw [mu_j (by decide)]; omega)) rfl ?_
                refine V_goto (pc := 216) (tgt := 223) dX12_takeClause_216 (by decide) ?_
                refine V_istore_2 (pc := 223) dX12_takeClause_223 (by decide) rfl ?_
                have eq : tC ν k = tCe (tCp ν k) := tC_c (by omega) (by omega)
                rw [eq] at hX
                have e := l_cl224 (X := X) (p := tCp ν k) (MX_p h k) (tCp_f h k) (k := k) hX
                first
                  | (rw [show tCp ν k = tC0 ν from if_pos (by omega)] at e; exact e)
                  | (rw [show tCp ν k = tkR (tCm ν) from (if_neg (by omega)).trans (if_pos (by omega))] at e; exact e)
                  | (rw [show tCp ν k = tkT (tCm ν) from (if_neg (by omega)).trans (if_neg (by omega))] at e; exact e)
            · refine V_aloadn (pc := 188) dX12_takeClause_188 rfl ?_
              refine V_iconst (pc := 189) dX12_takeClause_189 ?_
              refine V_bipush (pc := 190) dX12_takeClause_190 (by decide +kernel) ?_
              refine V_cv2 (pc := 192) dX12_takeClause_192 kX12_178 zk_256 (by decide) (Nat.le_of_ble_eq_true rfl) (r_takeNumber g.1 (by decide) (by decide)) rfl ?_
              refine V_istore_2 (pc := 195) dX12_takeClause_195 (by decide) rfl ?_
              refine V_aloadn (pc := 196) dX12_takeClause_196 rfl ?_
              refine V_aloadn (pc := 197) dX12_takeClause_197 rfl ?_
              refine V_geti (r := 0) (pc := 198) dX12_takeClause_198 fX12_175 zk_256 ?_
              refine V_puti (pc := 201) dX12_takeClause_201 fX12_184 zk_256 ?_
              refine V_goto (pc := 204) (tgt := 224) dX12_takeClause_204 (by decide) ?_
              have eq : tC ν k = tCe (tCp ν k) := tC_c (by omega) (by omega)
              rw [eq] at hX
              have e := l_cl224 (X := X) (p := tCp ν k) (MX_p h k) (tCp_f h k) (k := k) hX
              first
                | (rw [show tCp ν k = tC0 ν from if_pos (by omega)] at e; exact e)
                | (rw [show tCp ν k = tkR (tCm ν) from (if_neg (by omega)).trans (if_pos (by omega))] at e; exact e)
                | (rw [show tCp ν k = tkT (tCm ν) from (if_neg (by omega)).trans (if_neg (by omega))] at e; exact e)
          · refine V_goto (pc := 152) (tgt := 164) dX12_takeClause_152 (by decide) ?_
            refine V_aloadn (pc := 164) dX12_takeClause_164 rfl ?_
            refine V_iconst (pc := 165) dX12_takeClause_165 ?_
            refine V_aloadn (pc := 166) dX12_takeClause_166 rfl ?_
            refine V_geti (r := 0) (pc := 167) dX12_takeClause_167 fX12_138 zk_256 ?_
            refine V_cv2 (pc := 170) dX12_takeClause_170 kX12_168 zk_256 (by decide) (Nat.le_of_ble_eq_true rfl) (r_fails) rfl ?_
            refine V_iret hX dX12_takeClause_173 rfl ?_
            rw [tC_b (by omega) (by omega)]
            exact ⟨rfl, rfl⟩
      · refine V_aloadn (pc := 128) dX12_takeClause_128 rfl ?_
        refine V_geti (r := 0) (pc := 129) dX12_takeClause_129 fX12_184 zk_256 ?_
        refine V_if_le (pc := 132) (tgt := 174) dX12_takeClause_132 (by decide) (by omega) (fun h132 => ?_) (fun h132 => ?_)
        · refine V_aloadn (pc := 174) dX12_takeClause_174 rfl ?_
          refine V_aloadn (pc := 175) dX12_takeClause_175 rfl ?_
          refine V_geti (r := 0) (pc := 176) dX12_takeClause_176 fX12_149 zk_256 ?_
          refine V_puti (pc := 179) dX12_takeClause_179 fX12_138 zk_256 ?_
          refine V_iconst (pc := 182) dX12_takeClause_182 ?_
          refine V_istore_2 (pc := 183) dX12_takeClause_183 (by decide) rfl ?_
          refine V_iloadn (pc := 184) dX12_takeClause_184 rfl ?_
          refine V_if_ne (pc := 185) (tgt := 207) dX12_takeClause_185 (by decide) (by omega) (fun h185 => ?_) (fun h185 => ?_)
          · refine V_iloadn (pc := 207) dX12_takeClause_207 rfl ?_
            refine V_iconst (pc := 208) dX12_takeClause_208 ?_
            refine V_icmp_ne (pc := 209) (tgt := 219) dX12_takeClause_209 (by decide) (by omega) (by decide) (fun h209 => ?_) (fun h209 => ?_)
            · refine V_aloadn (pc := 219) dX12_takeClause_219 rfl ?_
              refine V_cv0 (pc := 220) dX12_takeClause_220 kX12_212 zk_256 (by decide) (Nat.le_of_ble_eq_true rfl) (r_takeTravel g (by rw [mu_j (by decide)]; omega)) rfl ?_
              refine V_istore_2 (pc := 223) dX12_takeClause_223 (by decide) rfl ?_
              have eq : tC ν k = tCe (tCp ν k) := tC_c (by omega) (by omega)
              rw [eq] at hX
              have e := l_cl224 (X := X) (p := tCp ν k) (MX_p h k) (tCp_f h k) (k := k) hX
              first
                | (rw [show tCp ν k = tC0 ν from if_pos (by omega)] at e; exact e)
                | (rw [show tCp ν k = tkR (tCm ν) from (if_neg (by omega)).trans (if_pos (by omega))] at e; exact e)
                | (rw [show tCp ν k = tkT (tCm ν) from (if_neg (by omega)).trans (if_neg (by omega))] at e; exact e)
            · refine V_aloadn (pc := 212) dX12_takeClause_212 rfl ?_
              refine V_cv0 (pc := 213) dX12_takeClause_213 kX12_209 zk_256 (by decide) (Nat.le_of_ble_eq_true rfl) (r_takeRoad g (by rw [mu_j (by decide)]; omega)) rfl ?_
              refine V_goto (pc := 216) (tgt := 223) dX12_takeClause_216 (by decide) ?_
              refine V_istore_2 (pc := 223) dX12_takeClause_223 (by decide) rfl ?_
              have eq : tC ν k = tCe (tCp ν k) := tC_c (by omega) (by omega)
              rw [eq] at hX
              have e := l_cl224 (X := X) (p := tCp ν k) (MX_p h k) (tCp_f h k) (k := k) hX
              first
                | (rw [show tCp ν k = tC0 ν from if_pos (by omega)] at e; exact e)
                | (rw [show tCp ν k = tkR (tCm ν) from (if_neg (by omega)).trans (if_pos (by omega))] at e; exact e)
                | (rw [show tCp ν k = tkT (tCm ν) from (if_neg (by omega)).trans (if_neg (by omega))] at e; exact e)
          · refine V_aloadn (pc := 188) dX12_takeClause_188 rfl ?_
            refine V_iconst (pc := 189) dX12_takeClause_189 ?_
            refine V_bipush (pc := 190) dX12_takeClause_190 (by decide +kernel) ?_
            refine V_cv2 (pc := 192) dX12_takeClause_192 kX12_178 zk_256 (by decide) (Nat.le_of_ble_eq_true rfl) (r_takeNumber g.1 (by decide) (by decide)) rfl ?_
            refine V_istore_2 (pc := 195) dX12_takeClause_195 (by decide) rfl ?_
            refine V_aloadn (pc := 196) dX12_takeClause_196 rfl ?_
            refine V_aloadn (pc := 197) dX12_takeClause_197 rfl ?_
            refine V_geti (r := 0) (pc := 198) dX12_takeClause_198 fX12_175 zk_256 ?_
            refine V_puti (pc := 201) dX12_takeClause_201 fX12_184 zk_256 ?_
            refine V_goto (pc := 204) (tgt := 224) dX12_takeClause_204 (by decide) ?_
            have eq : tC ν k = tCe (tCp ν k) := tC_c (by omega) (by omega)
            rw [eq] at hX
            have e := l_cl224 (X := X) (p := tCp ν k) (MX_p h k) (tCp_f h k) (k := k) hX
            first
              | (rw [show tCp ν k = tC0 ν from if_pos (by omega)] at e; exact e)
              | (rw [show tCp ν k = tkR (tCm ν) from (if_neg (by omega)).trans (if_pos (by omega))] at e; exact e)
              | (rw [show tCp ν k = tkT (tCm ν) from (if_neg (by omega)).trans (if_neg (by omega))] at e; exact e)
        · refine V_goto (pc := 135) (tgt := 164) dX12_takeClause_135 (by decide) ?_
          refine V_aloadn (pc := 164) dX12_takeClause_164 rfl ?_
          refine V_iconst (pc := 165) dX12_takeClause_165 ?_
          refine V_aloadn (pc := 166) dX12_takeClause_166 rfl ?_
          refine V_geti (r := 0) (pc := 167) dX12_takeClause_167 fX12_138 zk_256 ?_
          refine V_cv2 (pc := 170) dX12_takeClause_170 kX12_168 zk_256 (by decide) (Nat.le_of_ble_eq_true rfl) (r_fails) rfl ?_
          refine V_iret hX dX12_takeClause_173 rfl ?_
          rw [tC_b (by omega) (by omega)]
          exact ⟨rfl, rfl⟩
    · refine V_aloadn (pc := 107) dX12_takeClause_107 rfl ?_
      refine V_geti (r := 0) (pc := 108) dX12_takeClause_108 fX12_184 zk_256 ?_
      refine V_if_ne (pc := 111) (tgt := 124) dX12_takeClause_111 (by decide) (by omega) (fun h111 => ?_) (fun h111 => ?_)
      · refine V_iloadn (pc := 124) dX12_takeClause_124 rfl ?_
        refine V_if_ne (pc := 125) (tgt := 138) dX12_takeClause_125 (by decide) (by omega) (fun h125 => ?_) (fun h125 => ?_)
        · refine V_iloadn (pc := 138) dX12_takeClause_138 rfl ?_
          refine V_iconst (pc := 139) dX12_takeClause_139 ?_
          refine V_icmp_ne (pc := 140) (tgt := 155) dX12_takeClause_140 (by decide) (by omega) (by decide) (fun h140 => ?_) (fun h140 => ?_)
          · refine V_aloadn (pc := 155) dX12_takeClause_155 rfl ?_
            refine V_geti (r := 0) (pc := 156) dX12_takeClause_156 fX12_195 zk_256 ?_
            refine V_bipush (pc := 159) dX12_takeClause_159 (by decide +kernel) ?_
            refine V_icmp_ne (pc := 161) (tgt := 174) dX12_takeClause_161 (by decide) (by omega) (by decide) (fun h161 => ?_) (fun h161 => ?_)
            · refine V_aloadn (pc := 174) dX12_takeClause_174 rfl ?_
              refine V_aloadn (pc := 175) dX12_takeClause_175 rfl ?_
              refine V_geti (r := 0) (pc := 176) dX12_takeClause_176 fX12_149 zk_256 ?_
              refine V_puti (pc := 179) dX12_takeClause_179 fX12_138 zk_256 ?_
              refine V_iconst (pc := 182) dX12_takeClause_182 ?_
              refine V_istore_2 (pc := 183) dX12_takeClause_183 (by decide) rfl ?_
              refine V_iloadn (pc := 184) dX12_takeClause_184 rfl ?_
              refine V_if_ne (pc := 185) (tgt := 207) dX12_takeClause_185 (by decide) (by omega) (fun h185 => ?_) (fun h185 => ?_)
              · refine V_iloadn (pc := 207) dX12_takeClause_207 rfl ?_
                refine V_iconst (pc := 208) dX12_takeClause_208 ?_
                refine V_icmp_ne (pc := 209) (tgt := 219) dX12_takeClause_209 (by decide) (by omega) (by decide) (fun h209 => ?_) (fun h209 => ?_)
                · refine V_aloadn (pc := 219) dX12_takeClause_219 rfl ?_
                  refine V_cv0 (pc := 220) dX12_takeClause_220 kX12_212 zk_256 (by decide) (Nat.le_of_ble_eq_true rfl) (r_takeTravel g (by rw [mu_j (by decide)]; omega)) rfl ?_
                  refine V_istore_2 (pc := 223) dX12_takeClause_223 (by decide) rfl ?_
                  have eq : tC ν k = tCe (tCp ν k) := tC_c (by omega) (by omega)
                  rw [eq] at hX
                  have e := l_cl224 (X := X) (p := tCp ν k) (MX_p h k) (tCp_f h k) (k := k) hX
                  first
                    | (rw [show tCp ν k = tC0 ν from if_pos (by omega)] at e; exact e)
                    | (rw [show tCp ν k = tkR (tCm ν) from (if_neg (by omega)).trans (if_pos (by omega))] at e; exact e)
                    | (rw [show tCp ν k = tkT (tCm ν) from (if_neg (by omega)).trans (if_neg (by omega))] at e; exact e)
                · refine V_aloadn (pc := 212) dX12_takeClause_212 rfl ?_
                  refine V_cv0 (pc := 213) dX12_takeClause_213 kX12_209 zk_256 (by decide) (Nat.le_of_ble_eq_true rfl) (r_takeRoad g (by rw [mu_j (by decide)]; omega)) rfl ?_
                  refine V_goto (pc := 216) (tgt := 223) dX12_takeClause_216 (by decide) ?_
                  refine V_istore_2 (pc := 223) dX12_takeClause_223 (by decide) rfl ?_
                  have eq : tC ν k = tCe (tCp ν k) := tC_c (by omega) (by omega)
                  rw [eq] at hX
                  have e := l_cl224 (X := X) (p := tCp ν k) (MX_p h k) (tCp_f h k) (k := k) hX
                  first
                    | (rw [show tCp ν k = tC0 ν from if_pos (by omega)] at e; exact e)
                    | (rw [show tCp ν k = tkR (tCm ν) from (if_neg (by omega)).trans (if_pos (by omega))] at e; exact e)
                    | (rw [show tCp ν k = tkT (tCm ν) from (if_neg (by omega)).trans (if_neg (by omega))] at e; exact e)
              · refine V_aloadn (pc := 188) dX12_takeClause_188 rfl ?_
                refine V_iconst (pc := 189) dX12_takeClause_189 ?_
                refine V_bipush (pc := 190) dX12_takeClause_190 (by decide +kernel) ?_
                refine V_cv2 (pc := 192) dX12_takeClause_192 kX12_178 zk_256 (by decide) (Nat.le_of_ble_eq_true rfl) (r_takeNumber g.1 (by decide) (by decide)) rfl ?_
                refine V_istore_2 (pc := 195) dX12_takeClause_195 (by decide) rfl ?_
                refine V_aloadn (pc := 196) dX12_takeClause_196 rfl ?_
                refine V_aloadn (pc := 197) dX12_takeClause_197 rfl ?_
                refine V_geti (r := 0) (pc := 198) dX12_takeClause_198 fX12_175 zk_256 ?_
                refine V_puti (pc := 201) dX12_takeClause_201 fX12_184 zk_256 ?_
                refine V_goto (pc := 204) (tgt := 224) dX12_takeClause_204 (by decide) ?_
                have eq : tC ν k = tCe (tCp ν k) := tC_c (by omega) (by omega)
                rw [eq] at hX
                have e := l_cl224 (X := X) (p := tCp ν k) (MX_p h k) (tCp_f h k) (k := k) hX
                first
                  | (rw [show tCp ν k = tC0 ν from if_pos (by omega)] at e; exact e)
                  | (rw [show tCp ν k = tkR (tCm ν) from (if_neg (by omega)).trans (if_pos (by omega))] at e; exact e)
                  | (rw [show tCp ν k = tkT (tCm ν) from (if_neg (by omega)).trans (if_neg (by omega))] at e; exact e)
            · refine V_aloadn (pc := 164) dX12_takeClause_164 rfl ?_
              refine V_iconst (pc := 165) dX12_takeClause_165 ?_
              refine V_aloadn (pc := 166) dX12_takeClause_166 rfl ?_
              refine V_geti (r := 0) (pc := 167) dX12_takeClause_167 fX12_138 zk_256 ?_
              refine V_cv2 (pc := 170) dX12_takeClause_170 kX12_168 zk_256 (by decide) (Nat.le_of_ble_eq_true rfl) (r_fails) rfl ?_
              refine V_iret hX dX12_takeClause_173 rfl ?_
              rw [tC_b (by omega) (by omega)]
              exact ⟨rfl, rfl⟩
          · refine V_aloadn (pc := 143) dX12_takeClause_143 rfl ?_
            refine V_geti (r := 0) (pc := 144) dX12_takeClause_144 fX12_181 zk_256 ?_
            refine V_bipush (pc := 147) dX12_takeClause_147 (by decide +kernel) ?_
            refine V_icmp_ne (pc := 149) (tgt := 174) dX12_takeClause_149 (by decide) (by omega) (by decide) (fun h149 => ?_) (fun h149 => ?_)
            · refine V_aloadn (pc := 174) dX12_takeClause_174 rfl ?_
              refine V_aloadn (pc := 175) dX12_takeClause_175 rfl ?_
              refine V_geti (r := 0) (pc := 176) dX12_takeClause_176 fX12_149 zk_256 ?_
              refine V_puti (pc := 179) dX12_takeClause_179 fX12_138 zk_256 ?_
              refine V_iconst (pc := 182) dX12_takeClause_182 ?_
              refine V_istore_2 (pc := 183) dX12_takeClause_183 (by decide) rfl ?_
              refine V_iloadn (pc := 184) dX12_takeClause_184 rfl ?_
              refine V_if_ne (pc := 185) (tgt := 207) dX12_takeClause_185 (by decide) (by omega) (fun h185 => ?_) (fun h185 => ?_)
              · refine V_iloadn (pc := 207) dX12_takeClause_207 rfl ?_
                refine V_iconst (pc := 208) dX12_takeClause_208 ?_
                refine V_icmp_ne (pc := 209) (tgt := 219) dX12_takeClause_209 (by decide) (by omega) (by decide) (fun h209 => ?_) (fun h209 => ?_)
                · refine V_aloadn (pc := 219) dX12_takeClause_219 rfl ?_
                  refine V_cv0 (pc := 220) dX12_takeClause_220 kX12_212 zk_256 (by decide) (Nat.le_of_ble_eq_true rfl) (r_takeTravel g (by rw [mu_j (by decide)]; omega)) rfl ?_
                  refine V_istore_2 (pc := 223) dX12_takeClause_223 (by decide) rfl ?_
                  have eq : tC ν k = tCe (tCp ν k) := tC_c (by omega) (by omega)
                  rw [eq] at hX
                  have e := l_cl224 (X := X) (p := tCp ν k) (MX_p h k) (tCp_f h k) (k := k) hX
                  first
                    | (rw [show tCp ν k = tC0 ν from if_pos (by omega)] at e; exact e)
                    | (rw [show tCp ν k = tkR (tCm ν) from (if_neg (by omega)).trans (if_pos (by omega))] at e; exact e)
                    | (rw [show tCp ν k = tkT (tCm ν) from (if_neg (by omega)).trans (if_neg (by omega))] at e; exact e)
                · refine V_aloadn (pc := 212) dX12_takeClause_212 rfl ?_
                  refine V_cv0 (pc := 213) dX12_takeClause_213 kX12_209 zk_256 (by decide) (Nat.le_of_ble_eq_true rfl) (r_takeRoad g (by rw [mu_j (by decide)]; omega)) rfl ?_
                  refine V_goto (pc := 216) (tgt := 223) dX12_takeClause_216 (by decide) ?_
                  refine V_istore_2 (pc := 223) dX12_takeClause_223 (by decide) rfl ?_
                  have eq : tC ν k = tCe (tCp ν k) := tC_c (by omega) (by omega)
                  rw [eq] at hX
                  have e := l_cl224 (X := X) (p := tCp ν k) (MX_p h k) (tCp_f h k) (k := k) hX
                  first
                    | (rw [show tCp ν k = tC0 ν from if_pos (by omega)] at e; exact e)
                    | (rw [show tCp ν k = tkR (tCm ν) from (if_neg (by omega)).trans (if_pos (by omega))] at e; exact e)
                    | (rw [show tCp ν k = tkT (tCm ν) from (if_neg (by omega)).trans (if_neg (by omega))] at e; exact e)
              · refine V_aloadn (pc := 188) dX12_takeClause_188 rfl ?_
                refine V_iconst (pc := 189) dX12_takeClause_189 ?_
                refine V_bipush (pc := 190) dX12_takeClause_190 (by decide +kernel) ?_
                refine V_cv2 (pc := 192) dX12_takeClause_192 kX12_178 zk_256 (by decide) (Nat.le_of_ble_eq_true rfl) (r_takeNumber g.1 (by decide) (by decide)) rfl ?_
                refine V_istore_2 (pc := 195) dX12_takeClause_195 (by decide) rfl ?_
                refine V_aloadn (pc := 196) dX12_takeClause_196 rfl ?_
                refine V_aloadn (pc := 197) dX12_takeClause_197 rfl ?_
                refine V_geti (r := 0) (pc := 198) dX12_takeClause_198 fX12_175 zk_256 ?_
                refine V_puti (pc := 201) dX12_takeClause_201 fX12_184 zk_256 ?_
                refine V_goto (pc := 204) (tgt := 224) dX12_takeClause_204 (by decide) ?_
                have eq : tC ν k = tCe (tCp ν k) := tC_c (by omega) (by omega)
                rw [eq] at hX
                have e := l_cl224 (X := X) (p := tCp ν k) (MX_p h k) (tCp_f h k) (k := k) hX
                first
                  | (rw [show tCp ν k = tC0 ν from if_pos (by omega)] at e; exact e)
                  | (rw [show tCp ν k = tkR (tCm ν) from (if_neg (by omega)).trans (if_pos (by omega))] at e; exact e)
                  | (rw [show tCp ν k = tkT (tCm ν) from (if_neg (by omega)).trans (if_neg (by omega))] at e; exact e)
            · refine V_goto (pc := 152) (tgt := 164) dX12_takeClause_152 (by decide) ?_
              refine V_aloadn (pc := 164) dX12_takeClause_164 rfl ?_
              refine V_iconst (pc := 165) dX12_takeClause_165 ?_
              refine V_aloadn (pc := 166) dX12_takeClause_166 rfl ?_
              refine V_geti (r := 0) (pc := 167) dX12_takeClause_167 fX12_138 zk_256 ?_
              refine V_cv2 (pc := 170) dX12_takeClause_170 kX12_168 zk_256 (by decide) (Nat.le_of_ble_eq_true rfl) (r_fails) rfl ?_
              refine V_iret hX dX12_takeClause_173 rfl ?_
              rw [tC_b (by omega) (by omega)]
              exact ⟨rfl, rfl⟩
        · refine V_aloadn (pc := 128) dX12_takeClause_128 rfl ?_
          refine V_geti (r := 0) (pc := 129) dX12_takeClause_129 fX12_184 zk_256 ?_
          refine V_if_le (pc := 132) (tgt := 174) dX12_takeClause_132 (by decide) (by omega) (fun h132 => ?_) (fun h132 => ?_)
          · refine V_aloadn (pc := 174) dX12_takeClause_174 rfl ?_
            refine V_aloadn (pc := 175) dX12_takeClause_175 rfl ?_
            refine V_geti (r := 0) (pc := 176) dX12_takeClause_176 fX12_149 zk_256 ?_
            refine V_puti (pc := 179) dX12_takeClause_179 fX12_138 zk_256 ?_
            refine V_iconst (pc := 182) dX12_takeClause_182 ?_
            refine V_istore_2 (pc := 183) dX12_takeClause_183 (by decide) rfl ?_
            refine V_iloadn (pc := 184) dX12_takeClause_184 rfl ?_
            refine V_if_ne (pc := 185) (tgt := 207) dX12_takeClause_185 (by decide) (by omega) (fun h185 => ?_) (fun h185 => ?_)
            · refine V_iloadn (pc := 207) dX12_takeClause_207 rfl ?_
              refine V_iconst (pc := 208) dX12_takeClause_208 ?_
              refine V_icmp_ne (pc := 209) (tgt := 219) dX12_takeClause_209 (by decide) (by omega) (by decide) (fun h209 => ?_) (fun h209 => ?_)
              · refine V_aloadn (pc := 219) dX12_takeClause_219 rfl ?_
                refine V_cv0 (pc := 220) dX12_takeClause_220 kX12_212 zk_256 (by decide) (Nat.le_of_ble_eq_true rfl) (r_takeTravel g (by rw [mu_j (by decide)]; omega)) rfl ?_
                refine V_istore_2 (pc := 223) dX12_takeClause_223 (by decide) rfl ?_
                have eq : tC ν k = tCe (tCp ν k) := tC_c (by omega) (by omega)
                rw [eq] at hX
                have e := l_cl224 (X := X) (p := tCp ν k) (MX_p h k) (tCp_f h k) (k := k) hX
                first
                  | (rw [show tCp ν k = tC0 ν from if_pos (by omega)] at e; exact e)
                  | (rw [show tCp ν k = tkR (tCm ν) from (if_neg (by omega)).trans (if_pos (by omega))] at e; exact e)
                  | (rw [show tCp ν k = tkT (tCm ν) from (if_neg (by omega)).trans (if_neg (by omega))] at e; exact e)
              · refine V_aloadn (pc := 212) dX12_takeClause_212 rfl ?_
                refine V_cv0 (pc := 213) dX12_takeClause_213 kX12_209 zk_256 (by decide) (Nat.le_of_ble_eq_true rfl) (r_takeRoad g (by rw [mu_j (by decide)]; omega)) rfl ?_
                refine V_goto (pc := 216) (tgt := 223) dX12_takeClause_216 (by decide) ?_
                refine V_istore_2 (pc := 223) dX12_takeClause_223 (by decide) rfl ?_
                have eq : tC ν k = tCe (tCp ν k) := tC_c (by omega) (by omega)
                rw [eq] at hX
                have e := l_cl224 (X := X) (p := tCp ν k) (MX_p h k) (tCp_f h k) (k := k) hX
                first
                  | (rw [show tCp ν k = tC0 ν from if_pos (by omega)] at e; exact e)
                  | (rw [show tCp ν k = tkR (tCm ν) from (if_neg (by omega)).trans (if_pos (by omega))] at e; exact e)
                  | (rw [show tCp ν k = tkT (tCm ν) from (if_neg (by omega)).trans (if_neg (by omega))] at e; exact e)
            · refine V_aloadn (pc := 188) dX12_takeClause_188 rfl ?_
              refine V_iconst (pc := 189) dX12_takeClause_189 ?_
              refine V_bipush (pc := 190) dX12_takeClause_190 (by decide +kernel) ?_
              refine V_cv2 (pc := 192) dX12_takeClause_192 kX12_178 zk_256 (by decide) (Nat.le_of_ble_eq_true rfl) (r_takeNumber g.1 (by decide) (by decide)) rfl ?_
              refine V_istore_2 (pc := 195) dX12_takeClause_195 (by decide) rfl ?_
              refine V_aloadn (pc := 196) dX12_takeClause_196 rfl ?_
              refine V_aloadn (pc := 197) dX12_takeClause_197 rfl ?_
              refine V_geti (r := 0) (pc := 198) dX12_takeClause_198 fX12_175 zk_256 ?_
              refine V_puti (pc := 201) dX12_takeClause_201 fX12_184 zk_256 ?_
              refine V_goto (pc := 204) (tgt := 224) dX12_takeClause_204 (by decide) ?_
              have eq : tC ν k = tCe (tCp ν k) := tC_c (by omega) (by omega)
              rw [eq] at hX
              have e := l_cl224 (X := X) (p := tCp ν k) (MX_p h k) (tCp_f h k) (k := k) hX
              first
                | (rw [show tCp ν k = tC0 ν from if_pos (by omega)] at e; exact e)
                | (rw [show tCp ν k = tkR (tCm ν) from (if_neg (by omega)).trans (if_pos (by omega))] at e; exact e)
                | (rw [show tCp ν k = tkT (tCm ν) from (if_neg (by omega)).trans (if_neg (by omega))] at e; exact e)
          · refine V_goto (pc := 135) (tgt := 164) dX12_takeClause_135 (by decide) ?_
            refine V_aloadn (pc := 164) dX12_takeClause_164 rfl ?_
            refine V_iconst (pc := 165) dX12_takeClause_165 ?_
            refine V_aloadn (pc := 166) dX12_takeClause_166 rfl ?_
            refine V_geti (r := 0) (pc := 167) dX12_takeClause_167 fX12_138 zk_256 ?_
            refine V_cv2 (pc := 170) dX12_takeClause_170 kX12_168 zk_256 (by decide) (Nat.le_of_ble_eq_true rfl) (r_fails) rfl ?_
            refine V_iret hX dX12_takeClause_173 rfl ?_
            rw [tC_b (by omega) (by omega)]
            exact ⟨rfl, rfl⟩
      · refine V_aloadn (pc := 114) dX12_takeClause_114 rfl ?_
        refine V_iconst (pc := 115) dX12_takeClause_115 ?_
        refine V_aloadn (pc := 116) dX12_takeClause_116 rfl ?_
        refine V_geti (r := 0) (pc := 117) dX12_takeClause_117 fX12_138 zk_256 ?_
        refine V_cv2 (pc := 120) dX12_takeClause_120 kX12_168 zk_256 (by decide) (Nat.le_of_ble_eq_true rfl) (r_fails) rfl ?_
        refine V_iret hX dX12_takeClause_123 rfl ?_
        rw [tC_a (by omega)]
        exact ⟨rfl, rfl⟩

end

theorem hS_r {σ : Int → Int} (hσ : ∀ a, σ a ≤ 255) : ∀ (n : Nat) (a v : Int), (0 ≤ v ∧ v ≤ 27000000000100) → 0 ≤ fdG (lC σ) (sdS σ) n a v ∧ fdG (lC σ) (sdS σ) n a v ≤ 27000000000100 := by
  intro n
  induction n with
  | zero => intro a v h; exact h
  | succ n ih =>
    intro a v h
    rw [fdG_s]
    split
    · rename_i hc
      unfold lC at hc
      refine ih _ _ ?_
      unfold sdS
      split <;> omega
    · exact h
theorem hS_rg {μ : Mem} (h : MX μ) : 0 ≤ hS μ ∧ hS μ ≤ 27000000000100 := hS_r (fun a => (sgm_r h a).2) _ _ _ (by decide)
theorem lcm_eq {a b : Int} : lcm a b = 0 ↔ a = b := by unfold lcm; split <;> (try split) <;> omega
theorem rwM_21 {μ : Mem} : rwM μ 256 21 = hS μ := by unfold rwM; rw [mu_j (by decide), mu_h]
theorem rwM_22 {μ : Mem} : rwM μ 256 22 = hW μ := mu_h
theorem rwM_20 {μ : Mem} : rwM μ 256 20 = hB μ := by unfold rwM; rw [mu_j (by decide), mu_j (by decide), heM_20]
theorem rwM_j {μ : Mem} {j : Nat} (h : j ≠ 20) (h1 : j ≠ 21) (h2 : j ≠ 22) : rwM μ 256 j = μ 256 j := by unfold rwM; rw [mu_j h2, mu_j h1, heM_j h]
theorem rwM_c {μ : Mem} {c : Nat} (h : c ≠ 256) : rwM μ c = μ c := by unfold rwM; rw [mu_ne h, mu_ne h, heM_c h]
theorem wOk_rw {μ : Mem} (h : MPI μ) : wOk (rwM μ) := by
  obtain ⟨h1, h2, h3, h4⟩ := h
  have g1 := hB_rg h1
  have g2 := hW_rg h1
  refine ⟨⟨MX_mu (MX_mu (MX_he h1) (by decide) (by decide)) (by decide) (by decide), ?_, ?_, ?_⟩, ?_, ?_⟩
  · unfold RW; rw [rwM_j (by decide) (by decide) (by decide), rwM_c (by decide), rwM_c (by decide)]; exact h2
  · rw [rwM_j (by decide) (by decide) (by decide)]; exact h3
  · rw [rwM_j (by decide) (by decide) (by decide)]; exact h4
  · rw [rwM_20, rwM_22]; exact g2.1
  · rw [rwM_22, rwM_j (by decide) (by decide) (by decide)]; exact g2.2
def tkC (μ : Mem) : Int × Mem := tC (rwM μ) (kdF μ)
theorem FP_tkC (μ : Mem) : FPm μ (tkC μ).2 := ((((FP_he μ).mj (by decide)).mj (by decide)) : FPm μ (rwM μ)).tr (FP_C _ _)

set_option maxRecDepth 20000 in
theorem r_takeClause {μ : Mem} (h : MPI μ) : SP mX12_takeClause [vr 256] μ (fun w m => w = vi (tkC μ).1 ∧ m = (tkC μ).2) := by
  refine SP_intro (ls := [vr 256, un, un]) (by decide +kernel) rfl rfl (Nat.le_of_ble_eq_true rfl) rfl (fun X hX => ?_)
  have hw := wOk_rw h
  have hs := hS_rg h.1
  have hT := l_cl98 (X := X) hw (kd_rg μ) hX
  refine V_aloadn (pc := 0) dX12_takeClause_0 rfl ?_
  refine V_cu0 (pc := 1) dX12_takeClause_1 kX12_198 zk_256 (by decide) (Nat.le_of_ble_eq_true rfl) (r_readWord h.1) ?_
  refine V_aloadn (pc := 4) dX12_takeClause_4 rfl ?_
  refine V_getl (r := 0) (pc := 5) dX12_takeClause_5 fX12_145 zk_256 ?_
  rw [rwM_21]
  refine V_ldc2 (pc := 8) (n := 27) dX12_takeClause_8 nX12_160 (by decide) ?_
  refine V_ldc2 (pc := 11) (n := 27) dX12_takeClause_11 nX12_160 (by decide) ?_
  refine V_bipush (pc := 14) dX12_takeClause_14 (by decide +kernel) ?_
  refine V_bipush (pc := 16) dX12_takeClause_16 (by decide +kernel) ?_
  refine V_bipush (pc := 18) dX12_takeClause_18 (by decide +kernel) ?_
  refine V_bipush (pc := 20) dX12_takeClause_20 (by decide +kernel) ?_
  refine V_cs4 (pc := 22) dX12_takeClause_22 kX12_201 (by decide) (Nat.le_of_ble_eq_true rfl) (r_code (by decide) (by decide) (by decide) (by decide)) rfl ?_
  refine V_lmul (pc := 25) dX12_takeClause_25 ?_
  refine V_ldc2 (pc := 26) (n := 101) dX12_takeClause_26 nX12_205 (by decide) ?_
  refine V_ladd (pc := 29) dX12_takeClause_29 ?_
  refine V_ldc2 (pc := 30) (n := 96) dX12_takeClause_30 nX12_162 (by decide) ?_
  refine V_lsub (pc := 33) dX12_takeClause_33 ?_
  refine V_lmul (pc := 34) dX12_takeClause_34 ?_
  refine V_ldc2 (pc := 35) (n := 115) dX12_takeClause_35 nX12_207 (by decide) ?_
  refine V_ladd (pc := 38) dX12_takeClause_38 ?_
  refine V_ldc2 (pc := 39) (n := 96) dX12_takeClause_39 nX12_162 (by decide) ?_
  refine V_lsub (pc := 42) dX12_takeClause_42 ?_
  refine V_lcmp (pc := 43) dX12_takeClause_43 (by first | exact lcm_rg _ _ | omega) (by first | exact lcm_rg _ _ | omega) ?_
  refine V_if_ne (pc := 44) (tgt := 51) dX12_takeClause_44 (by decide) (by first | exact lcm_rg _ _ | omega) (fun h44 => ?_) (fun h44 => ?_)
  · refine V_aloadn (pc := 51) dX12_takeClause_51 rfl ?_
    refine V_getl (r := 0) (pc := 52) dX12_takeClause_52 fX12_145 zk_256 ?_
    rw [rwM_21]
    refine V_bipush (pc := 55) dX12_takeClause_55 (by decide +kernel) ?_
    refine V_bipush (pc := 57) dX12_takeClause_57 (by decide +kernel) ?_
    refine V_bipush (pc := 59) dX12_takeClause_59 (by decide +kernel) ?_
    refine V_bipush (pc := 61) dX12_takeClause_61 (by decide +kernel) ?_
    refine V_cs4 (pc := 63) dX12_takeClause_63 kX12_201 (by decide) (Nat.le_of_ble_eq_true rfl) (r_code (by decide) (by decide) (by decide) (by decide)) rfl ?_
    refine V_lcmp (pc := 66) dX12_takeClause_66 (by first | exact lcm_rg _ _ | omega) (by first | exact lcm_rg _ _ | omega) ?_
    refine V_if_ne (pc := 67) (tgt := 74) dX12_takeClause_67 (by decide) (by first | exact lcm_rg _ _ | omega) (fun h67 => ?_) (fun h67 => ?_)
    · refine V_aloadn (pc := 74) dX12_takeClause_74 rfl ?_
      refine V_getl (r := 0) (pc := 75) dX12_takeClause_75 fX12_145 zk_256 ?_
      rw [rwM_21]
      refine V_bipush (pc := 78) dX12_takeClause_78 (by decide +kernel) ?_
      refine V_bipush (pc := 80) dX12_takeClause_80 (by decide +kernel) ?_
      refine V_bipush (pc := 82) dX12_takeClause_82 (by decide +kernel) ?_
      refine V_bipush (pc := 84) dX12_takeClause_84 (by decide +kernel) ?_
      refine V_cs4 (pc := 86) dX12_takeClause_86 kX12_201 (by decide) (Nat.le_of_ble_eq_true rfl) (r_code (by decide) (by decide) (by decide) (by decide)) rfl ?_
      refine V_lcmp (pc := 89) dX12_takeClause_89 (by first | exact lcm_rg _ _ | omega) (by first | exact lcm_rg _ _ | omega) ?_
      refine V_if_ne (pc := 90) (tgt := 97) dX12_takeClause_90 (by decide) (by first | exact lcm_rg _ _ | omega) (fun h90 => ?_) (fun h90 => ?_)
      · refine V_iconst (pc := 97) dX12_takeClause_97 ?_
        try rw [lcm_eq] at h44
        try rw [lcm_eq] at h67
        try rw [lcm_eq] at h90
        first
          | (rw [show kdF μ = 0 by unfold kdF; rw [if_pos (by omega)]] at hT; exact hT)
          | (rw [show kdF μ = 1 by unfold kdF; rw [if_neg (by omega), if_pos (by omega)]] at hT; exact hT)
          | (rw [show kdF μ = 2 by unfold kdF; rw [if_neg (by omega), if_neg (by omega), if_pos (by omega)]] at hT; exact hT)
          | (rw [show kdF μ = -1 by unfold kdF; rw [if_neg (by omega), if_neg (by omega), if_neg (by omega)]] at hT; exact hT)
      · refine V_iconst (pc := 93) dX12_takeClause_93 ?_
        refine V_goto (pc := 94) (tgt := 98) dX12_takeClause_94 (by decide) ?_
        try rw [lcm_eq] at h44
        try rw [lcm_eq] at h67
        try rw [lcm_eq] at h90
        first
          | (rw [show kdF μ = 0 by unfold kdF; rw [if_pos (by omega)]] at hT; exact hT)
          | (rw [show kdF μ = 1 by unfold kdF; rw [if_neg (by omega), if_pos (by omega)]] at hT; exact hT)
          | (rw [show kdF μ = 2 by unfold kdF; rw [if_neg (by omega), if_neg (by omega), if_pos (by omega)]] at hT; exact hT)
          | (rw [show kdF μ = -1 by unfold kdF; rw [if_neg (by omega), if_neg (by omega), if_neg (by omega)]] at hT; exact hT)
    · refine V_iconst (pc := 70) dX12_takeClause_70 ?_
      refine V_goto (pc := 71) (tgt := 98) dX12_takeClause_71 (by decide) ?_
      try rw [lcm_eq] at h44
      try rw [lcm_eq] at h67
      try rw [lcm_eq] at h90
      first
        | (rw [show kdF μ = 0 by unfold kdF; rw [if_pos (by omega)]] at hT; exact hT)
        | (rw [show kdF μ = 1 by unfold kdF; rw [if_neg (by omega), if_pos (by omega)]] at hT; exact hT)
        | (rw [show kdF μ = 2 by unfold kdF; rw [if_neg (by omega), if_neg (by omega), if_pos (by omega)]] at hT; exact hT)
        | (rw [show kdF μ = -1 by unfold kdF; rw [if_neg (by omega), if_neg (by omega), if_neg (by omega)]] at hT; exact hT)
  · refine V_iconst (pc := 47) dX12_takeClause_47 ?_
    refine V_goto (pc := 48) (tgt := 98) dX12_takeClause_48 (by decide) ?_
    try rw [lcm_eq] at h44
    try rw [lcm_eq] at h67
    try rw [lcm_eq] at h90
    first
      | (rw [show kdF μ = 0 by unfold kdF; rw [if_pos (by omega)]] at hT; exact hT)
      | (rw [show kdF μ = 1 by unfold kdF; rw [if_neg (by omega), if_pos (by omega)]] at hT; exact hT)
      | (rw [show kdF μ = 2 by unfold kdF; rw [if_neg (by omega), if_neg (by omega), if_pos (by omega)]] at hT; exact hT)
      | (rw [show kdF μ = -1 by unfold kdF; rw [if_neg (by omega), if_neg (by omega), if_neg (by omega)]] at hT; exact hT)

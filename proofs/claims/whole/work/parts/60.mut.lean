theorem RM_posts {μ ν : Mem} (hl : LAg μ ν) (hr : ∀ k, 257 ≤ k → k ≤ 269 → ν k = μ k) (hj : ∀ j, j ≠ 16 → ν 256 j = μ 256 j) (h1 : ∀ p : Nat, (p : Int) < μ 32 0 → ν 270 p = ν (80 + 2) p ∧ ν 271 p = ν (80 + 3) p) (h2 : ∀ p t : Nat, (p : Int) < μ 32 0 → (t : Int) < μ 32 0 → ¬ μ (32 + 13) (p * 9 + t) = -1 → ν 272 (p * 9 + t) = ν (80 + 4) (p * 9 + t)) (H : RM μ) : RM ν := by
  obtain ⟨a1, a2, a3, a4, a5, _, _⟩ := H
  refine ⟨?_, ?_, ?_, ?_, ?_, ?_, ?_⟩
  · rw [hj 0 (by decide), hj 1 (by decide), hj 5 (by decide), hl 32 (by decide) (by decide)]; exact a1
  · rw [hr 259 (by decide) (by decide), hr 260 (by decide) (by decide), hr 261 (by decide) (by decide), hl 32 (by decide) (by decide), hl (32 + 4) (by decide) (by decide), hl (32 + 5) (by decide) (by decide), hl (32 + 6) (by decide) (by decide)]; exact a2
  · rw [hr 263 (by decide) (by decide), hr 264 (by decide) (by decide), hr 265 (by decide) (by decide), hl 32 (by decide) (by decide), hl (32 + 7) (by decide) (by decide), hl (32 + 8) (by decide) (by decide), hl (32 + 9) (by decide) (by decide)]; exact a3
  · rw [hr 266 (by decide) (by decide), hr 267 (by decide) (by decide), hl 32 (by decide) (by decide), hl (32 + 10) (by decide) (by decide), hl (32 + 11) (by decide) (by decide)]; exact a4
  · rw [hr 268 (by decide) (by decide), hr 269 (by decide) (by decide), hl 32 (by decide) (by decide), hl (32 + 12) (by decide) (by decide), hl (32 + 13) (by decide) (by decide)]; exact a5
  · rw [hl 32 (by decide) (by decide)]; exact h1
  · rw [hl 32 (by decide) (by decide), hl (32 + 13) (by decide) (by decide)]; exact h2

theorem REL_posts {μ ν : Mem} (H : REL μ) (hc : ∀ k, (k ≠ 82 ∧ k ≠ 83 ∧ k ≠ 84 ∧ k ≠ 96 ∧ k ≠ 99 ∧ k ≠ 176 ∧ k ≠ 256 ∧ k ≠ 270 ∧ k ≠ 271 ∧ k ≠ 272) → ν k = μ k) (hj : ∀ j, (j ≠ 16) → ν 256 j = μ 256 j) (hPO : PO ν 80) (hq1 : ∀ p : Nat, (p : Int) < μ 32 0 → ν 270 p = ν (80 + 2) p ∧ ν 271 p = ν (80 + 3) p) (hq2 : ∀ p t : Nat, (p : Int) < μ 32 0 → (t : Int) < μ 32 0 → ¬ μ (32 + 13) (p * 9 + t) = -1 → ν 272 (p * 9 + t) = ν (80 + 4) (p * 9 + t)) (hMB : MB ν) (hSD : SD ν) : REL ν := by
  obtain ⟨h1, h2, h3, ⟨h4, h4'⟩, ⟨h5, h5'⟩, h6, h7, h8, h9, ⟨h10, h11, h12⟩, h13, h14⟩ := id H
  have hl : LAg μ ν := fun k a b => hc k (by omega)
  exact ⟨LF_cg hl h1, hPO, RM_posts hl (fun k a b => hc k (by omega)) hj hq1 hq2 h3, ⟨RS_cg hl (hj 41 (by decide)) (hc 144 (by decide)) (fun k a b => hc k (by omega)) (fun k a b => hc k (by omega)) h4, SOK_cg (hc 144 (by decide)) (fun k a b => hc k (by omega)) h4'⟩, ⟨RB_cg (hc 32 (by decide)) (hj 49 (by decide)) (hc 160 (by decide)) (fun k a b => hc k (by omega)) (fun k a b => hc k (by omega)) h5, BOK_cg (hc 160 (by decide)) (fun k a b => hc k (by omega)) h5'⟩, TX_cg (hc 16 (by decide)) (hc 17 (by decide)) (hj 18 (by decide)) (hc 274 (by decide)) h6, by rw [(hj 19 (by decide)), (hc 64 (by decide))]; exact h7, hSD, hMB, ⟨IM_cg hl ⟨hc _ (by decide), hc _ (by decide), hc _ (by decide)⟩ (hc 192 (by decide)) (hc 311 (by decide)) (hc 312 (by decide)) h10, IM_cg hl ⟨hc _ (by decide), hc _ (by decide), hc _ (by decide)⟩ (hc 224 (by decide)) (hc 311 (by decide)) (hc 312 (by decide)) h11, by unfold IB; rw [(hc 311 (by decide)), (hc 312 (by decide))]; exact h12⟩, LOK_cg h13 (hc 48 (by decide)) (fun k a b => hc (48 + k) (by omega)), RS2_cg hl (hc 144 (by decide)) (fun k a b => hc k (by omega)) h14⟩

theorem REL_seen {μ ν : Mem} (H : REL μ) (hc : ∀ k, (k ≠ 144 ∧ k ≠ 146 ∧ k ≠ 147 ∧ k ≠ 148 ∧ k ≠ 256 ∧ k ≠ 299 ∧ k ≠ 300 ∧ k ≠ 301) → ν k = μ k) (hj : ∀ j, (j ≠ 41) → ν 256 j = μ 256 j) (hRS : RS ν) (hSOK : SOK ν) (hR2 : RS2 ν) : REL ν := by
  obtain ⟨h1, h2, h3, ⟨h4, h4'⟩, ⟨h5, h5'⟩, h6, h7, h8, h9, ⟨h10, h11, h12⟩, h13, h14⟩ := id H
  have hl : LAg μ ν := fun k a b => hc k (by omega)
  exact ⟨LF_cg hl h1, PO_cg hl ⟨hc _ (by decide), hc _ (by decide), hc _ (by decide)⟩ h2, RM_cg hl ⟨hc _ (by decide), hc _ (by decide), hc _ (by decide)⟩ ⟨fun k a b => hc k (by omega), fun j hq => hj j (by omega)⟩ h3, ⟨hRS, hSOK⟩, ⟨RB_cg (hc 32 (by decide)) (hj 49 (by decide)) (hc 160 (by decide)) (fun k a b => hc k (by omega)) (fun k a b => hc k (by omega)) h5, BOK_cg (hc 160 (by decide)) (fun k a b => hc k (by omega)) h5'⟩, TX_cg (hc 16 (by decide)) (hc 17 (by decide)) (hj 18 (by decide)) (hc 274 (by decide)) h6, by rw [(hj 19 (by decide)), (hc 64 (by decide))]; exact h7, by unfold SD; rw [(hj 16 (by decide)), (hc 176 (by decide))]; exact h8, MB_cg (hj 0 (by decide)) (hj 16 (by decide)) (fun k a b => hc k (by omega)) h9, ⟨IM_cg hl ⟨hc _ (by decide), hc _ (by decide), hc _ (by decide)⟩ (hc 192 (by decide)) (hc 311 (by decide)) (hc 312 (by decide)) h10, IM_cg hl ⟨hc _ (by decide), hc _ (by decide), hc _ (by decide)⟩ (hc 224 (by decide)) (hc 311 (by decide)) (hc 312 (by decide)) h11, by unfold IB; rw [(hc 311 (by decide)), (hc 312 (by decide))]; exact h12⟩, LOK_cg h13 (hc 48 (by decide)) (fun k a b => hc (48 + k) (by omega)), hR2⟩

theorem REL_book {μ ν : Mem} (H : REL μ) (hc : ∀ k, (k ≠ 160 ∧ k ≠ 161 ∧ k ≠ 162 ∧ k ≠ 163 ∧ k ≠ 164 ∧ k ≠ 256 ∧ (k < 307 ∨ 310 < k)) → ν k = μ k) (hj : ∀ j, (j ≠ 49) → ν 256 j = μ 256 j) (hRB : RB ν) (hBOK : BOK ν) : REL ν := by
  obtain ⟨h1, h2, h3, ⟨h4, h4'⟩, ⟨h5, h5'⟩, h6, h7, h8, h9, ⟨h10, h11, h12⟩, h13, h14⟩ := id H
  have hl : LAg μ ν := fun k a b => hc k (by omega)
  exact ⟨LF_cg hl h1, PO_cg hl ⟨hc _ (by decide), hc _ (by decide), hc _ (by decide)⟩ h2, RM_cg hl ⟨hc _ (by decide), hc _ (by decide), hc _ (by decide)⟩ ⟨fun k a b => hc k (by omega), fun j hq => hj j (by omega)⟩ h3, ⟨RS_cg hl (hj 41 (by decide)) (hc 144 (by decide)) (fun k a b => hc k (by omega)) (fun k a b => hc k (by omega)) h4, SOK_cg (hc 144 (by decide)) (fun k a b => hc k (by omega)) h4'⟩, ⟨hRB, hBOK⟩, TX_cg (hc 16 (by decide)) (hc 17 (by decide)) (hj 18 (by decide)) (hc 274 (by decide)) h6, by rw [(hj 19 (by decide)), (hc 64 (by decide))]; exact h7, by unfold SD; rw [(hj 16 (by decide)), (hc 176 (by decide))]; exact h8, MB_cg (hj 0 (by decide)) (hj 16 (by decide)) (fun k a b => hc k (by omega)) h9, ⟨IM_cg hl ⟨hc _ (by decide), hc _ (by decide), hc _ (by decide)⟩ (hc 192 (by decide)) (hc 311 (by decide)) (hc 312 (by decide)) h10, IM_cg hl ⟨hc _ (by decide), hc _ (by decide), hc _ (by decide)⟩ (hc 224 (by decide)) (hc 311 (by decide)) (hc 312 (by decide)) h11, by unfold IB; rw [(hc 311 (by decide)), (hc 312 (by decide))]; exact h12⟩, LOK_cg h13 (hc 48 (by decide)) (fun k a b => hc (48 + k) (by omega)), RS2_cg hl (hc 144 (by decide)) (fun k a b => hc k (by omega)) h14⟩

theorem REL_text {μ ν : Mem} (H : REL μ) (hc : ∀ k, (k ≠ 16 ∧ k ≠ 17 ∧ k ≠ 256 ∧ k ≠ 274) → ν k = μ k) (hj : ∀ j, (j ≠ 18) → ν 256 j = μ 256 j) (hTX : TX ν) : REL ν := by
  obtain ⟨h1, h2, h3, ⟨h4, h4'⟩, ⟨h5, h5'⟩, h6, h7, h8, h9, ⟨h10, h11, h12⟩, h13, h14⟩ := id H
  have hl : LAg μ ν := fun k a b => hc k (by omega)
  exact ⟨LF_cg hl h1, PO_cg hl ⟨hc _ (by decide), hc _ (by decide), hc _ (by decide)⟩ h2, RM_cg hl ⟨hc _ (by decide), hc _ (by decide), hc _ (by decide)⟩ ⟨fun k a b => hc k (by omega), fun j hq => hj j (by omega)⟩ h3, ⟨RS_cg hl (hj 41 (by decide)) (hc 144 (by decide)) (fun k a b => hc k (by omega)) (fun k a b => hc k (by omega)) h4, SOK_cg (hc 144 (by decide)) (fun k a b => hc k (by omega)) h4'⟩, ⟨RB_cg (hc 32 (by decide)) (hj 49 (by decide)) (hc 160 (by decide)) (fun k a b => hc k (by omega)) (fun k a b => hc k (by omega)) h5, BOK_cg (hc 160 (by decide)) (fun k a b => hc k (by omega)) h5'⟩, hTX, by rw [(hj 19 (by decide)), (hc 64 (by decide))]; exact h7, by unfold SD; rw [(hj 16 (by decide)), (hc 176 (by decide))]; exact h8, MB_cg (hj 0 (by decide)) (hj 16 (by decide)) (fun k a b => hc k (by omega)) h9, ⟨IM_cg hl ⟨hc _ (by decide), hc _ (by decide), hc _ (by decide)⟩ (hc 192 (by decide)) (hc 311 (by decide)) (hc 312 (by decide)) h10, IM_cg hl ⟨hc _ (by decide), hc _ (by decide), hc _ (by decide)⟩ (hc 224 (by decide)) (hc 311 (by decide)) (hc 312 (by decide)) h11, by unfold IB; rw [(hc 311 (by decide)), (hc 312 (by decide))]; exact h12⟩, LOK_cg h13 (hc 48 (by decide)) (fun k a b => hc (48 + k) (by omega)), RS2_cg hl (hc 144 (by decide)) (fun k a b => hc k (by omega)) h14⟩

theorem REL_img {μ ν : Mem} (H : REL μ) (hc : ∀ k, (k ≠ 192 ∧ k ≠ 224 ∧ (k < 210 ∨ 212 < k) ∧ (k < 242 ∨ 244 < k) ∧ k ≠ 311 ∧ k ≠ 312 ∧ k ≠ 256) → ν k = μ k) (hj : ∀ j, (j = j) → ν 256 j = μ 256 j) (hI0 : IM ν 0 192 208 0) (hI1 : IM ν 1 224 240 100) (hIB : IB ν) : REL ν := by
  obtain ⟨h1, h2, h3, ⟨h4, h4'⟩, ⟨h5, h5'⟩, h6, h7, h8, h9, ⟨h10, h11, h12⟩, h13, h14⟩ := id H
  have hl : LAg μ ν := fun k a b => hc k (by omega)
  exact ⟨LF_cg hl h1, PO_cg hl ⟨hc _ (by decide), hc _ (by decide), hc _ (by decide)⟩ h2, RM_cg hl ⟨hc _ (by decide), hc _ (by decide), hc _ (by decide)⟩ ⟨fun k a b => hc k (by omega), fun j hq => hj j (by omega)⟩ h3, ⟨RS_cg hl (hj 41 (by decide)) (hc 144 (by decide)) (fun k a b => hc k (by omega)) (fun k a b => hc k (by omega)) h4, SOK_cg (hc 144 (by decide)) (fun k a b => hc k (by omega)) h4'⟩, ⟨RB_cg (hc 32 (by decide)) (hj 49 (by decide)) (hc 160 (by decide)) (fun k a b => hc k (by omega)) (fun k a b => hc k (by omega)) h5, BOK_cg (hc 160 (by decide)) (fun k a b => hc k (by omega)) h5'⟩, TX_cg (hc 16 (by decide)) (hc 17 (by decide)) (hj 18 (by decide)) (hc 274 (by decide)) h6, by rw [(hj 19 (by decide)), (hc 64 (by decide))]; exact h7, by unfold SD; rw [(hj 16 (by decide)), (hc 176 (by decide))]; exact h8, MB_cg (hj 0 (by decide)) (hj 16 (by decide)) (fun k a b => hc k (by omega)) h9, ⟨hI0, hI1, hIB⟩, LOK_cg h13 (hc 48 (by decide)) (fun k a b => hc (48 + k) (by omega)), RS2_cg hl (hc 144 (by decide)) (fun k a b => hc k (by omega)) h14⟩

theorem POK_f {μ : Mem} {o j : Nat} {v : Int} (h : POK μ o) (hv : 0 ≤ v ∧ v ≤ 31) : POK (mu μ (o + 3) j v) o := by
  obtain ⟨a, b, c⟩ := h
  refine ⟨fun p => ?_, fun p => ?_, fun p => ?_⟩
  · rw [mu_c (by omega)]; exact a p
  · rw [mu_ap]; split; exact hv; exact b p
  · rw [mu_c (by omega)]; exact c p
theorem POK_m {μ : Mem} {o j : Nat} {v : Int} (h : POK μ o) (hv : 0 ≤ v ∧ v ≤ 999999) : POK (mu μ (o + 4) j v) o := by
  obtain ⟨a, b, c⟩ := h
  refine ⟨fun p => ?_, fun p => ?_, fun p => ?_⟩
  · rw [mu_c (by omega)]; exact a p
  · rw [mu_c (by omega)]; exact b p
  · rw [mu_ap]; split; omega; exact c p
theorem POK_o {μ : Mem} {o k j : Nat} {v : Int} (h : POK μ o) (h2 : k ≠ o + 2) (h3 : k ≠ o + 3) (h4 : k ≠ o + 4) : POK (mu μ k j v) o := POK_cg ⟨mu_ne (Ne.symm h2), mu_ne (Ne.symm h3), mu_ne (Ne.symm h4)⟩ h
theorem MB_270 {μ : Mem} {j : Nat} {v : Int} (h : MB μ) (hv : 0 ≤ v ∧ v ≤ 4) : MB (mu μ 270 j v) := by
  obtain ⟨a, b, c, d, e, f, g, i⟩ := h
  refine ⟨by rw [mu_c (by decide)]; exact a, fun p => by rw [mu_c (by decide)]; exact b p, fun p => ?_, fun p => by rw [mu_c (by decide)]; exact d p, fun p => by rw [mu_c (by decide)]; exact e p, fun p => by rw [mu_c (by decide)]; exact f p, fun p => by rw [mu_c (by decide)]; exact g p, by rw [mu_c (by decide)]; exact i⟩
  rw [mu_ap]; split; exact hv; exact c p
theorem MB_271 {μ : Mem} {j : Nat} {v : Int} (h : MB μ) (hv : 0 ≤ v ∧ v ≤ 31) : MB (mu μ 271 j v) := by
  obtain ⟨a, b, c, d, e, f, g, i⟩ := h
  refine ⟨by rw [mu_c (by decide)]; exact a, fun p => by rw [mu_c (by decide)]; exact b p, fun p => by rw [mu_c (by decide)]; exact c p, fun p => ?_, fun p => by rw [mu_c (by decide)]; exact e p, fun p => by rw [mu_c (by decide)]; exact f p, fun p => by rw [mu_c (by decide)]; exact g p, by rw [mu_c (by decide)]; exact i⟩
  rw [mu_ap]; split; exact hv; exact d p
theorem MB_272 {μ : Mem} {j : Nat} {v : Int} (h : MB μ) (hv : inR v) : MB (mu μ 272 j v) := by
  obtain ⟨a, b, c, d, e, f, g, i⟩ := h
  refine ⟨by rw [mu_c (by decide)]; exact a, fun p => by rw [mu_c (by decide)]; exact b p, fun p => by rw [mu_c (by decide)]; exact c p, fun p => by rw [mu_c (by decide)]; exact d p, fun p => by rw [mu_c (by decide)]; exact e p, fun p => by rw [mu_c (by decide)]; exact f p, fun p => ?_, by rw [mu_c (by decide)]; exact i⟩
  rw [mu_ap]; split; exact hv; exact g p
theorem MB_o {μ : Mem} {k j : Nat} {v : Int} (h : MB μ) (hk : k < 256) : MB (mu μ k j v) := MB_cg (mu_c (by omega)) (mu_c (by omega)) (fun a h1 h2 => mu_ne (by omega)) h
theorem SD_o {μ : Mem} {k j : Nat} {v : Int} (h : SD μ) (hk : k ≠ 256) (h2 : k ≠ 176) : SD (mu μ k j v) := by
  unfold SD; rw [mu_c (Ne.symm hk), mu_c (Ne.symm h2)]; exact h
theorem a_turn {μ : Mem} (H : REL μ) {p k : Int} (hp : inR p) (hk : inR k) : Agr mX11_turn mX12_turn [vi p, vi k] μ := by
  refine ⟨(cTurn μ p k).1, _, t_turn H.ci hp hk, ?_⟩
  rintro w m ⟨rfl, rfl⟩
  have hMB := H.2.2.2.2.2.2.2.2.1
  have hSD := H.2.2.2.2.2.2.2.1
  have r0 : μ 256 0 = μ 32 0 := H.2.2.1.1.1
  have hB : MB (cTurn μ p k).2 := by
    unfold cTurn
    repeat' split
    all_goals first | exact hMB | exact MB_o hMB (by decide)
  refine ⟨rfl, _, r_turn hB hp hk, ?_⟩
  rintro w2 m2 ⟨rfl, rfl⟩
  by_cases c1 : 0 ≤ p ∧ p < μ 32 0
  · obtain ⟨e1, e2, e3, e4, e5, e6⟩ := RM.sd H.gi c1
    by_cases c2 : 1 ≤ k ∧ k ≤ 99
    · by_cases c3 : gSd μ 32 p = 0
      · have h1 : cTurn μ p k = (-1000000003, μ) := by unfold cTurn; rw [if_pos c1, if_pos c2, if_pos c3]
        have h2 : mTurn μ p k = (-1000000003, μ) := by unfold mTurn; rw [if_pos (by omega), if_pos c2, if_pos (by omega)]
        rw [h1, h2]; exact ⟨rfl, H⟩
      · generalize hv : (μ (80 + 2) p.toNat + k) % gSd μ 32 p = v
        have s5 := H.1.1.2.2.2.1 p.toNat
        have hv0 : 0 ≤ v ∧ v < μ (32 + 10) p.toNat := by
          rw [← hv]; exact ⟨Int.emod_nonneg _ c3, by rw [← e4]; exact Int.emod_lt_of_pos _ (by omega)⟩
        have h1 : cTurn μ p k = (v, mu μ (80 + 2) p.toNat v) := by unfold cTurn; rw [if_pos c1, if_pos c2, if_neg c3, hv]
        have h2 : mTurn (mu μ (80 + 2) p.toNat v) p k = (v, mu (mu μ (80 + 2) p.toNat v) 270 p.toNat v) := by
          unfold mTurn
          rw [mu_c (by decide), mu_c (by decide), mu_c (by decide), if_pos (by omega), if_pos c2, if_neg (by omega), e1, e2, ← e4, hv]
        rw [h1, h2]
        refine ⟨rfl, ?_⟩
        show REL (mu (mu μ (80 + 2) p.toNat v) 270 p.toNat v)
        refine REL_posts H (fun k hk => (mu_ne (by omega)).trans (mu_ne (by omega))) (fun j _ => by rw [mu_c (by decide), mu_c (by decide)]) ⟨POK_o (POK_turn H.2.1.1 (by omega)) (by decide) (by decide) (by decide), fun q h3 h4 => ?_, fun q t h3 h4 => ?_⟩ (fun q h3 => ?_) (fun q t h3 h4 h5 => ?_) (MB_270 (MB_o hMB (by decide)) (by omega)) (SD_o (SD_o hSD (by decide) (by decide)) (by decide) (by decide))
        · rw [mu_c (by decide), mu_c (by decide)] at h3 h4
          rw [mu_c (by decide), mu_c (a := 32 + 10) (by decide), mu_c (a := 32 + 10) (by decide), mu_ap]
          split
          · rename_i q1; rw [q1.2]; exact hv0.2
          · exact H.2.1.2.1 q h3 h4
        · rw [mu_c (by decide), mu_c (by decide)] at h3 h4
          rw [mu_c (a := 32 + 13) (by decide), mu_c (a := 32 + 13) (by decide), mu_c (a := 80 + 4) (by decide), mu_c (a := 80 + 4) (by decide), mu_c (a := 32 + 12) (by decide), mu_c (a := 32 + 12) (by decide)]
          exact H.2.1.2.2 q t h3 h4
        · have h6 := H.2.2.1.2.2.2.2.2.1 q h3
          rw [mu_c (a := 80 + 2) (by decide), mu_c (a := 80 + 3) (by decide), mu_c (a := 80 + 3) (by decide), mu_c (a := 271) (by decide), mu_c (a := 271) (by decide)]
          refine ⟨?_, h6.2⟩
          by_cases c : q = p.toNat
          · rw [c, mu_h, mu_h]
          · rw [mu_j c, mu_j c, mu_c (a := 270) (by decide)]; exact h6.1
        · rw [mu_c (by decide), mu_c (by decide), mu_c (by decide), mu_c (by decide)]
          exact H.2.2.1.2.2.2.2.2.2 q t h3 h4 h5
    · have h1 : cTurn μ p k = (-1000000002, μ) := by unfold cTurn; rw [if_pos c1, if_neg c2]
      have h2 : mTurn μ p k = (-1000000002, μ) := by unfold mTurn; rw [if_pos (by omega), if_neg c2]
      rw [h1, h2]; exact ⟨rfl, H⟩
  · have h1 : cTurn μ p k = (-1000000001, μ) := by unfold cTurn; rw [if_neg c1]
    have h2 : mTurn μ p k = (-1000000001, μ) := by unfold mTurn; rw [if_neg (by omega)]
    rw [h1, h2]; exact ⟨rfl, H⟩
theorem fell_a : ∀ f : Nat, f < 32 → ∀ i : Nat, i < 5 → (0 ≤ iand (f : Int) (ixor (ishl 1 (i : Int)) (-1)) ∧ iand (f : Int) (ixor (ishl 1 (i : Int)) (-1)) ≤ 31) ∧ (0 ≤ iorr (f : Int) (ishl 1 (i : Int)) ∧ iorr (f : Int) (ishl 1 (i : Int)) ≤ 31) := by decide +kernel
theorem fell_a' {f i : Int} (hf : 0 ≤ f ∧ f ≤ 31) (hi : 0 ≤ i ∧ i < 5) (b : Int) : 0 ≤ (if b = 0 then iand f (ixor (ishl 1 i) (-1)) else iorr f (ishl 1 i)) ∧ (if b = 0 then iand f (ixor (ishl 1 i) (-1)) else iorr f (ishl 1 i)) ≤ 31 := by
  have := fell_a f.toNat (by omega) i.toNat (by omega)
  rw [show ((f.toNat : Nat) : Int) = f by omega, show ((i.toNat : Nat) : Int) = i by omega] at this
  split
  · exact this.1
  · exact this.2
theorem a_fell {μ : Mem} (H : REL μ) {p i b : Int} (hp : inR p) (hi : inR i) (hb2 : b = 0 ∨ b = 1) : Agr mX11_fell mX12_fell [vi p, vi i, vi b] μ := by
  refine ⟨(cFell μ p i b).1, _, t_fell H.ci hp hi hb2, ?_⟩
  rintro w m ⟨rfl, rfl⟩
  have hMB := H.2.2.2.2.2.2.2.2.1
  have hSD := H.2.2.2.2.2.2.2.1
  have r0 : μ 256 0 = μ 32 0 := H.2.2.1.1.1
  have hB : MB (cFell μ p i b).2 := by
    unfold cFell
    split
    · split
      · exact MB_o hMB (by decide)
      · exact hMB
    · exact hMB
  refine ⟨rfl, _, r_fell hB hp hi hb2, ?_⟩
  rintro w2 m2 ⟨rfl, rfl⟩
  by_cases c1 : 0 ≤ p ∧ p < μ 32 0
  · obtain ⟨e1, e2, e3, e4, e5, e6⟩ := RM.sd H.gi c1
    by_cases c2 : 0 ≤ i ∧ i < μ (32 + 10) p.toNat
    · have s5 := H.1.1.2.2.2.1 p.toNat
      have f31 := H.2.1.1.2.1 p.toNat
      have hv0 := fell_a' (f := μ (80 + 3) p.toNat) (i := i) f31 (by omega) b
      have hfb : bi (Fl μ 80 p i) = hb (μ (80 + 3) p.toNat) i := by
        have h01 := hb_01 (μ (80 + 3) p.toNat) i
        have iff := In_iff (s := μ (80 + 3) p.toNat) (k := i) (by omega)
        by_cases c : hb (μ (80 + 3) p.toNat) i = 1
        · rw [bi_pos ⟨c1, iff.mpr c⟩, c]
        · rw [bi_neg (fun q => c (iff.mp q.2))]; omega
      generalize hv : (if b = 0 then iand (μ (80 + 3) p.toNat) (ixor (ishl 1 i) (-1)) else iorr (μ (80 + 3) p.toNat) (ishl 1 i)) = v at hv0
      have h1 : cFell μ p i b = (hb (μ (80 + 3) p.toNat) i, mu μ (80 + 3) p.toNat v) := by unfold cFell; rw [if_pos c1, if_pos ⟨c1, c2⟩, hv, hfb]
      have h2 : mFell (mu μ (80 + 3) p.toNat v) p i b = (hb (μ (80 + 3) p.toNat) i, mu (mu μ (80 + 3) p.toNat v) 271 p.toNat v) := by
        unfold mFell
        rw [mu_c (by decide), mu_c (by decide), mu_c (by decide), if_pos (by omega), if_pos (by omega), e3, hv]
      rw [h1, h2]
      refine ⟨rfl, ?_⟩
      show REL (mu (mu μ (80 + 3) p.toNat v) 271 p.toNat v)
      refine REL_posts H (fun k hk => (mu_ne (by omega)).trans (mu_ne (by omega))) (fun j _ => by rw [mu_c (by decide), mu_c (by decide)]) ⟨POK_o (POK_f H.2.1.1 (by omega)) (by decide) (by decide) (by decide), fun q h3 h4 => ?_, fun q t h3 h4 => ?_⟩ (fun q h3 => ?_) (fun q t h3 h4 h5 => ?_) (MB_271 (MB_o hMB (by decide)) (by omega)) (SD_o (SD_o hSD (by decide) (by decide)) (by decide) (by decide))
      · rw [mu_c (by decide), mu_c (by decide)] at h3 h4
        rw [mu_c (a := 80 + 2) (by decide), mu_c (a := 80 + 2) (by decide), mu_c (a := 32 + 10) (by decide), mu_c (a := 32 + 10) (by decide)]
        exact H.2.1.2.1 q h3 h4
      · rw [mu_c (by decide), mu_c (by decide)] at h3 h4
        rw [mu_c (a := 32 + 13) (by decide), mu_c (a := 32 + 13) (by decide), mu_c (a := 80 + 4) (by decide), mu_c (a := 80 + 4) (by decide), mu_c (a := 32 + 12) (by decide), mu_c (a := 32 + 12) (by decide)]
        exact H.2.1.2.2 q t h3 h4
      · have h6 := H.2.2.1.2.2.2.2.2.1 q h3
        rw [mu_c (a := 80 + 2) (by decide), mu_c (a := 80 + 2) (by decide), mu_c (a := 80 + 3) (by decide), mu_c (a := 270) (by decide), mu_c (a := 270) (by decide)]
        refine ⟨h6.1, ?_⟩
        by_cases c : q = p.toNat
        · rw [c, mu_h, mu_h]
        · rw [mu_j c, mu_j c, mu_c (a := 271) (by decide)]; exact h6.2
      · rw [mu_c (by decide), mu_c (by decide), mu_c (by decide), mu_c (by decide)]
        exact H.2.2.1.2.2.2.2.2.2 q t h3 h4 h5
    · have h1 : cFell μ p i b = (-1000000002, μ) := by unfold cFell; rw [if_pos c1, if_neg (fun q => c2 q.2)]
      have h2 : mFell μ p i b = (-1000000002, μ) := by unfold mFell; rw [if_pos (by omega), if_neg (by omega)]
      rw [h1, h2]; exact ⟨rfl, H⟩
  · have h1 : cFell μ p i b = (-1000000001, μ) := by unfold cFell; rw [if_neg c1]
    have h2 : mFell μ p i b = (-1000000001, μ) := by unfold mFell; rw [if_neg (by omega)]
    rw [h1, h2]; exact ⟨rfl, H⟩
theorem a_paint {μ : Mem} (H : REL μ) {p t k : Int} (hp : inR p) (ht : inR t) (hk : inR k) : Agr mX11_paint mX12_paint [vi p, vi t, vi k] μ := by
  refine ⟨(cPaint μ p t k).1, _, t_paint H.ci hp ht hk, ?_⟩
  rintro w m ⟨rfl, rfl⟩
  have hMB := H.2.2.2.2.2.2.2.2.1
  have hSD := H.2.2.2.2.2.2.2.1
  have r0 : μ 256 0 = μ 32 0 := H.2.2.1.1.1
  have hB : MB (cPaint μ p t k).2 := by
    unfold cPaint
    repeat' split
    all_goals first | exact hMB | exact MB_o hMB (by decide)
  refine ⟨rfl, _, r_paint hB hp ht hk, ?_⟩
  rintro w2 m2 ⟨rfl, rfl⟩
  by_cases c1 : (0 ≤ p ∧ p < μ 32 0) ∧ (0 ≤ t ∧ t < μ 32 0)
  · obtain ⟨e1, e2, e3, e4, e5⟩ := RM.arm H.gi c1.1 c1.2
    obtain ⟨_, _, f3, _, _, _⟩ := RM.sd H.gi c1.1
    have hP := H.1.1.1
    obtain ⟨z1, z2⟩ := aT_0 H.gi c1.1 c1.2
    by_cases c2 : 0 ≤ k ∧ k ≤ 999
    · by_cases c3 : mT μ 80 p t = -1
      · have ha : aT μ 80 p t 0 = -1 := by
          by_cases q : aT μ 80 p t 0 = -1
          · exact q
          · exact absurd c3 (H.mt p t c1.1 c1.2 q).1
        have h1 : cPaint μ p t k = (-1000000003, μ) := by unfold cPaint; rw [if_pos c1, if_pos c2, if_pos c3]
        have h2 : mPaint μ p t k = (-1000000003, μ) := by
          unfold mPaint
          rw [if_pos (by omega), if_pos c2, e1, f3, if_neg]
          have := z1.mp ha
          omega
        rw [h1, h2]; exact ⟨rfl, H⟩
      · have ha : ¬ aT μ 80 p t 0 = -1 := fun q => c3 (by unfold mT; rw [if_pos q])
        have hga := (aT_arm ha).2
        have em : mT μ 80 p t = pM μ 80 p t := by unfold mT; rw [if_neg ha]
        have hv := e5 hga
        have hx : (9 * p + t).toNat = (p * 9 + t).toNat := by omega
        have h1 : cPaint μ p t k = (mT μ 80 p t, mu μ (80 + 4) (p * 9 + t).toNat k) := by unfold cPaint; rw [if_pos c1, if_pos c2, if_neg c3]
        have hcond : 0 ≤ gArm μ 32 p t ∧ ¬ hb (μ (80 + 3) p.toNat) (gArm μ 32 p t) = 1 := ⟨by omega, fun q => ha (z1.mpr (Or.inr q))⟩
        have h2 : mPaint (mu μ (80 + 4) (p * 9 + t).toNat k) p t k = (mT μ 80 p t, mu (mu μ (80 + 4) (p * 9 + t).toNat k) 272 (p * 9 + t).toNat k) := by
          unfold mPaint
          rw [mu_c (by decide), mu_c (by decide), mu_c (by decide), mu_c (by decide), if_pos (by omega), if_pos c2, e1, f3, if_pos hcond, em, hv, hx]
        rw [h1, h2]
        have earm : gArm μ 32 p t = μ (32 + 13) (p.toNat * 9 + t.toNat) := by unfold gArm; rw [if_pos c1]; congr 1; omega
        refine ⟨rfl, ?_⟩
        show REL (mu (mu μ (80 + 4) (p * 9 + t).toNat k) 272 (p * 9 + t).toNat k)
        refine REL_posts H (fun k hk => (mu_ne (by omega)).trans (mu_ne (by omega))) (fun j _ => by rw [mu_c (by decide), mu_c (by decide)]) ⟨POK_o (POK_m H.2.1.1 (by omega)) (by decide) (by decide) (by decide), fun q h3 h4 => ?_, fun q u h3 h4 => ?_⟩ (fun q h3 => ?_) (fun q u h3 h4 h5 => ?_) (MB_272 (MB_o hMB (by decide)) (by omega)) (SD_o (SD_o hSD (by decide) (by decide)) (by decide) (by decide))
        · rw [mu_c (by decide), mu_c (by decide)] at h3 h4
          rw [mu_c (a := 80 + 2) (by decide), mu_c (a := 80 + 2) (by decide), mu_c (a := 32 + 10) (by decide), mu_c (a := 32 + 10) (by decide)]
          exact H.2.1.2.1 q h3 h4
        · rw [mu_c (by decide), mu_c (by decide)] at h3 h4
          rw [mu_c (a := 32 + 13) (by decide), mu_c (a := 32 + 13) (by decide), mu_c (a := 80 + 4) (by decide), mu_c (a := 32 + 12) (by decide), mu_c (a := 32 + 12) (by decide)]
          have h6 := H.2.1.2.2 q u h3 h4
          rw [mu_ap]
          by_cases c : q * 9 + u = (p * 9 + t).toNat
          · rw [if_pos ⟨rfl, c⟩]
            refine ⟨fun _ => by omega, fun z => ?_⟩
            exfalso
            apply hga
            rw [earm, show p.toNat * 9 + t.toNat = q * 9 + u by omega]; exact z
          · rw [if_neg (fun z => c z.2)]; exact h6
        · have h6 := H.2.2.1.2.2.2.2.2.1 q h3
          rw [mu_c (a := 80 + 2) (by decide), mu_c (a := 80 + 2) (by decide), mu_c (a := 80 + 3) (by decide), mu_c (a := 80 + 3) (by decide), mu_c (a := 270) (by decide), mu_c (a := 270) (by decide), mu_c (a := 271) (by decide), mu_c (a := 271) (by decide)]
          exact h6
        · rw [mu_c (a := 80 + 4) (by decide)]
          by_cases c : q * 9 + u = (p * 9 + t).toNat
          · rw [c, mu_h, mu_h]
          · rw [mu_j c, mu_j c, mu_c (a := 272) (by decide)]; exact H.2.2.1.2.2.2.2.2.2 q u h3 h4 h5
    · have h1 : cPaint μ p t k = (-1000000002, μ) := by unfold cPaint; rw [if_pos c1, if_neg c2]
      have h2 : mPaint μ p t k = (-1000000002, μ) := by unfold mPaint; rw [if_pos (by omega), if_neg c2]
      rw [h1, h2]; exact ⟨rfl, H⟩
  · have h1 : cPaint μ p t k = (-1000000001, μ) := by unfold cPaint; rw [if_neg c1]
    have h2 : mPaint μ p t k = (-1000000001, μ) := by unfold mPaint; rw [if_neg (by omega)]
    rw [h1, h2]; exact ⟨rfl, H⟩
theorem a_seed {μ : Mem} (H : REL μ) {v : Int} (hv : inR v) : Agr mX11_seed mX12_seed [vi v] μ := by
  refine ⟨(cSeed μ v).1, _, t_seed H.ci hv, ?_⟩
  rintro w m ⟨rfl, rfl⟩
  refine ⟨rfl, _, r_seed hv, ?_⟩
  rintro w2 m2 ⟨rfl, rfl⟩
  have hMB := H.2.2.2.2.2.2.2.2.1
  have hSD := H.2.2.2.2.2.2.2.1
  by_cases c : v < 0
  · have h1 : cSeed μ v = (-1000000002, μ) := by unfold cSeed; rw [if_pos c]
    have h2 : mSeed μ v = (-1000000002, μ) := by unfold mSeed; rw [if_pos c]
    rw [h1, h2]; exact ⟨rfl, H⟩
  · have h1 : cSeed μ v = (μ 176 0, mu μ 176 0 v) := by unfold cSeed; rw [if_neg c]
    have h2 : mSeed (mu μ 176 0 v) v = (μ 256 16, mu (mu μ 176 0 v) 256 16 v) := by unfold mSeed; rw [if_neg c, mu_c (by decide)]
    rw [h1, h2]
    refine ⟨by show vi (μ 256 16) = vi (μ 176 0); rw [hSD.1], ?_⟩
    show REL (mu (mu μ 176 0 v) 256 16 v)
    refine REL_posts H (fun k hk => (mu_ne (by omega)).trans (mu_ne (by omega))) (fun j hj => by rw [mu_j hj, mu_c (by decide)]) (PO_cg (fun k a b => (mu_ne (by omega)).trans (mu_ne (by omega))) ⟨by rw [mu_ne (by decide), mu_ne (by decide)], by rw [mu_ne (by decide), mu_ne (by decide)], by rw [mu_ne (by decide), mu_ne (by decide)]⟩ H.2.1) (fun q h3 => ?_) (fun q u h3 h4 h5 => ?_) ?_ ?_
    · rw [mu_c (a := 80 + 2) (by decide), mu_c (a := 80 + 2) (by decide), mu_c (a := 80 + 3) (by decide), mu_c (a := 80 + 3) (by decide), mu_c (a := 270) (by decide), mu_c (a := 270) (by decide), mu_c (a := 271) (by decide), mu_c (a := 271) (by decide)]
      exact H.2.2.1.2.2.2.2.2.1 q h3
    · rw [mu_c (by decide), mu_c (by decide), mu_c (by decide), mu_c (by decide)]
      exact H.2.2.1.2.2.2.2.2.2 q u h3 h4 h5
    · obtain ⟨a, b, c, d, e, f, g, i⟩ := hMB
      refine ⟨by rw [mu_j (by decide), mu_c (by decide)]; exact a, fun p => by rw [mu_c (by decide), mu_c (by decide)]; exact b p, fun p => by rw [mu_c (by decide), mu_c (by decide)]; exact c p, fun p => by rw [mu_c (by decide), mu_c (by decide)]; exact d p, fun p => by rw [mu_c (by decide), mu_c (by decide)]; exact e p, fun p => by rw [mu_c (by decide), mu_c (by decide)]; exact f p, fun p => by rw [mu_c (by decide), mu_c (by decide)]; exact g p, by rw [mu_h]; omega⟩
    · unfold SD; rw [mu_h, mu_c (by decide), mu_h]; omega

theorem GI_cg {μ ν : Mem} (h : ∀ k, k < 96 → ν k = μ k) (r : RAg μ ν) (g : GI μ) : GI ν :=
  ⟨LOK_cg g.1 (h 32 (by decide)) (fun k a b => h (32 + k) (by omega)), POK_cg ⟨h _ (by decide), h _ (by decide), h _ (by decide)⟩ g.2.1, VL_cg (fun k a b => h k (by omega)) g.2.2.1, RM_cg (fun k a b => h k (by omega)) ⟨h _ (by decide), h _ (by decide), h _ (by decide)⟩ r g.2.2.2⟩
theorem sTw_sp {μ : Mem} {p q : Int} : ∀ (n : Nat) (s : Int), 0 ≤ s → (sTw μ 32 p q n s = -1 ∧ ∀ i, s ≤ i → i < s + n → ¬ gBy μ 32 p (gRd μ 32 p i) = q) ∨ ((s ≤ sTw μ 32 p q n s ∧ sTw μ 32 p q n s < s + n) ∧ gBy μ 32 p (gRd μ 32 p (sTw μ 32 p q n s)) = q) := by
  intro n
  induction n with
  | zero => intro s _; exact Or.inl ⟨rfl, fun i a b => by omega⟩
  | succ n ih =>
    intro s hs
    rw [sTw_s]
    by_cases c : gBy μ 32 p (gRd μ 32 p s) = q
    · rw [if_pos c]; exact Or.inr ⟨by omega, c⟩
    · rw [if_neg c]
      rcases ih (s + 1) (by omega) with h | h
      · refine Or.inl ⟨h.1, fun i a b => ?_⟩
        by_cases e : i = s
        · rw [e]; exact c
        · exact h.2 i (by omega) (by omega)
      · exact Or.inr ⟨by omega, h.2⟩
theorem nBs_iff {μ : Mem} (hF : LF μ) {p q : Int} (hp : 0 ≤ p ∧ p < μ 32 0) : nBs μ p q (μ 32 1).toNat ↔ sTw μ 32 p q (gSd μ 32 p).toNat 0 = -1 := by
  have hs := gSd_rg hF.1 p
  have e0 : gSd μ 32 p = μ (32 + 10) p.toNat := by unfold gSd; rw [if_pos hp]
  rcases sTw_sp (μ := μ) (p := p) (q := q) (gSd μ 32 p).toNat 0 (by decide) with h | h
  · refine ⟨fun _ => h.1, fun _ r hr hq => ?_⟩
    obtain ⟨i, hi, e⟩ := hF.2.2.2.2.2 p r hp (by omega) hq.1
    have := h.2 i (by omega) (by omega)
    rw [e] at this
    exact this hq.2
  · refine ⟨fun hn => ?_, fun hn => by omega⟩
    exfalso
    have sd := hF.2.1.side hp (i := sTw μ 32 p q (gSd μ 32 p).toNat 0) (by omega)
    have := hn (gRd μ 32 p (sTw μ 32 p q (gSd μ 32 p).toNat 0)).toNat (by omega)
    rw [show (((gRd μ 32 p (sTw μ 32 p q (gSd μ 32 p).toNat 0)).toNat : Nat) : Int) = gRd μ 32 p (sTw μ 32 p q (gSd μ 32 p).toNat 0) by omega] at this
    exact this ⟨sd.2.2, h.2⟩
theorem nBs_cg {μ ν : Mem} (h : LAg μ ν) {p q : Int} {n : Nat} : nBs ν p q n ↔ nBs μ p q n := by
  have eB : gBy ν 32 = gBy μ 32 := by funext a b; exact gBy_cg (h 32 (by decide) (by decide)) (h (32 + 4) (by decide) (by decide)) (h (32 + 5) (by decide) (by decide)) a b
  have eE : eP ν = eP μ := by funext p r; simp only [eP, h (32 + 4) (by decide) (by decide), h (32 + 5) (by decide) (by decide)]
  unfold nBs
  rw [eB, eE]
theorem a_seen {μ : Mem} (H : REL μ) {p t q : Int} (hp : inR p) (ht : inR t) (hq : inR q) : Agr mX11_seen mX12_seen [vi p, vi t, vi q] μ := by
  refine ⟨(cSeen μ p t q).1, _, t_seen H.ci hp ht hq, ?_⟩
  rintro w m ⟨rfl, rfl⟩
  obtain ⟨hRS, hSOK⟩ := H.2.2.2.1
  have hR2 := H.2.2.2.2.2.2.2.2.2.2.2
  have hc41 := hRS.1
  have hn := hRS.2.1
  by_cases c1 : (0 ≤ p ∧ p < μ 32 0) ∧ (0 ≤ t ∧ t < μ 32 0) ∧ (0 ≤ q ∧ q < μ 32 0)
  · have hbs := nBs_iff H.1 (p := p) (q := q) c1.1
    by_cases c2 : sTw μ 32 p q (gSd μ 32 p).toNat 0 = -1 ∨ gArm μ 32 p t = -1
    · have h1 : cSeen μ p t q = (-1000000002, μ) := by unfold cSeen; rw [if_pos c1, if_pos c2]
      have h2 : mSeen μ p t q = (-1000000002, μ) := by unfold mSeen; rw [if_pos c1, if_pos (c2.imp hbs.mpr id)]
      rw [h1]
      refine ⟨rfl, _, r_seen H.gi (by omega) hp ht hq, ?_⟩
      rintro w2 m2 ⟨rfl, rfl⟩
      rw [h2]; exact ⟨rfl, H⟩
    · by_cases c3 : 40 ≤ μ 144 4
      · have h1 : cSeen μ p t q = (-1000000004, μ) := by unfold cSeen; rw [if_pos c1, if_neg c2, if_pos c3]
        have h2 : mSeen μ p t q = (-1000000004, μ) := by unfold mSeen; rw [if_pos c1, if_neg (fun z => c2 (z.imp hbs.mp id)), if_pos (by omega)]
        rw [h1]
        refine ⟨rfl, _, r_seen H.gi (by omega) hp ht hq, ?_⟩
        rintro w2 m2 ⟨rfl, rfl⟩
        rw [h2]; exact ⟨rfl, H⟩
      · obtain ⟨n, en⟩ : ∃ n : Nat, μ 144 4 = (n : Int) := ⟨(μ 144 4).toNat, by omega⟩
        have etn : (μ 144 4).toNat = n := by omega
        obtain ⟨m1, hm1⟩ : ∃ m1, m1 = mu (mu (mu (mu μ 146 n p) 147 n t) 148 n q) 144 4 (μ 144 4 + 1) := ⟨_, rfl⟩
        have h1 : cSeen μ p t q = (μ 144 4 + 1, m1) := by unfold cSeen; rw [if_pos c1, if_neg c2, if_neg c3, etn, ← hm1]
        have hm : ∀ k, (k ≠ 144 ∧ k ≠ 146 ∧ k ≠ 147 ∧ k ≠ 148) → m1 k = μ k := fun k hk => by rw [hm1, mu_ne (by omega), mu_ne (by omega), mu_ne (by omega), mu_ne (by omega)]
        have hla : LAg μ m1 := fun k a b => hm k (by omega)
        have e256 : m1 256 = μ 256 := hm 256 (by decide)
        have hG1 : GI m1 := GI_cg (fun k hk => hm k (by omega)) ⟨fun k a b => hm k (by omega), fun j _ => by rw [e256]⟩ H.gi
        have eA : gArm m1 32 p t = gArm μ 32 p t := gArm_cg (hm 32 (by decide)) (hm (32 + 13) (by decide)) p t
        obtain ⟨m2, hm2⟩ : ∃ m2, m2 = mu (mu (mu (mu m1 299 n p) 300 n t) 301 n q) 256 41 (μ 144 4 + 1) := ⟨_, rfl⟩
        have h2 : mSeen m1 p t q = (μ 144 4 + 1, m2) := by
          unfold mSeen
          rw [hm 32 (by decide), e256, hc41, eA, if_pos c1, if_neg (fun z => c2 (z.imp (fun y => hbs.mp ((nBs_cg hla).mp y)) id)), if_neg c3, etn, ← hm2]
        rw [h1]
        refine ⟨rfl, _, r_seen hG1 (by rw [e256]; omega) hp ht hq, ?_⟩
        rintro w2 m3 ⟨rfl, rfl⟩
        rw [h2]
        refine ⟨rfl, ?_⟩
        show REL m2
        have g : ∀ k, (k ≠ 299 ∧ k ≠ 300 ∧ k ≠ 301 ∧ k ≠ 256) → m2 k = m1 k := fun k hk => by rw [hm2, mu_ne (by omega), mu_ne (by omega), mu_ne (by omega), mu_ne (by omega)]
        have e1 : ∀ k, m2 146 k = if k = n then p else μ 146 k := fun k => by rw [g 146 (by decide), hm1]; simp [mu]
        have e2 : ∀ k, m2 147 k = if k = n then t else μ 147 k := fun k => by rw [g 147 (by decide), hm1]; simp [mu]
        have e3 : ∀ k, m2 148 k = if k = n then q else μ 148 k := fun k => by rw [g 148 (by decide), hm1]; simp [mu]
        have e4 : ∀ k, m2 299 k = if k = n then p else μ 299 k := fun k => by rw [hm2, hm1]; simp [mu]
        have e5 : ∀ k, m2 300 k = if k = n then t else μ 300 k := fun k => by rw [hm2, hm1]; simp [mu]
        have e6 : ∀ k, m2 301 k = if k = n then q else μ 301 k := fun k => by rw [hm2, hm1]; simp [mu]
        have e7 : m2 144 4 = n + 1 := by rw [g 144 (by decide), hm1, mu_h, en]
        have e8 : m2 256 41 = n + 1 := by rw [hm2, mu_h, en]
        have e9 : m2 32 = μ 32 := by rw [g 32 (by decide), hm 32 (by decide)]
        have hl2 : LAg μ m2 := fun k a b => by rw [g k (by omega), hm k (by omega)]
        have eA2 : gArm m2 32 = gArm μ 32 := by funext x y; exact gArm_cg (hl2 32 (by decide) (by decide)) (hl2 (32 + 13) (by decide) (by decide)) x y
        refine REL_seen H (fun k hk => by rw [g k (by omega), hm k (by omega)]) (fun j hj => by rw [hm2, mu_j hj, mu_c (by decide), mu_c (by decide), mu_c (by decide), e256]) ⟨by rw [e7, e8], by omega, fun k hk => ?_⟩ ⟨by omega, fun k j a b => ?_⟩ (fun k hk => ?_)
        · rw [e7] at hk
          rw [e1, e2, e3, e4, e5, e6, e9, eA2]
          by_cases c : k = n
          · simp only [if_pos c]
            exact ⟨⟨trivial, trivial, trivial⟩, c1.1, c1.2.1, c1.2.2, fun z => c2 (Or.inr z)⟩
          · simp only [if_neg c]
            exact hRS.2.2 k (by omega)
        · rcases (show k = 146 ∨ k = 147 ∨ k = 148 by omega) with rfl | rfl | rfl
          · rw [e1]; split; exact hp; exact hSOK.2 _ j (by decide) (by decide)
          · rw [e2]; split; exact ht; exact hSOK.2 _ j (by decide) (by decide)
          · rw [e3]; split; exact hq; exact hSOK.2 _ j (by decide) (by decide)
        · rw [e7] at hk
          rw [e1, e3, sTw_cg hl2, gSd_cg (hl2 32 (by decide) (by decide)) (hl2 (32 + 10) (by decide) (by decide))]
          by_cases c : k = n
          · simp only [if_pos c]
            exact fun z => c2 (Or.inl z)
          · simp only [if_neg c]
            exact hR2 k (by omega)
  · have h1 : cSeen μ p t q = (-1000000001, μ) := by unfold cSeen; rw [if_neg c1]
    have h2 : mSeen μ p t q = (-1000000001, μ) := by unfold mSeen; rw [if_neg c1]
    rw [h1]
    refine ⟨rfl, _, r_seen H.gi (by omega) hp ht hq, ?_⟩
    rintro w2 m2 ⟨rfl, rfl⟩
    rw [h2]; exact ⟨rfl, H⟩
theorem a_forget {μ : Mem} (H : REL μ) : Agr mX11_forget mX12_forget [] μ := by
  refine ⟨μ 144 4, _, t_forget, ?_⟩
  rintro w m ⟨rfl, rfl⟩
  refine ⟨rfl, _, r_forget, ?_⟩
  rintro w2 m2 ⟨rfl, rfl⟩
  have hRS := H.2.2.2.1.1
  have hSOK := H.2.2.2.1.2
  refine ⟨by rw [mu_c (by decide), hRS.1], REL_seen H (fun k hk => by rw [mu_ne (by omega), mu_ne (by omega)]) (fun j hj => by rw [mu_j hj, mu_c (by decide)]) ⟨by rw [mu_h, mu_c (by decide), mu_h], by rw [mu_c (by decide), mu_h]; decide, fun k hk => ?_⟩ ⟨by rw [mu_c (by decide), mu_h]; decide, fun k j a b => by rw [mu_c (by omega), mu_c (by omega)]; exact hSOK.2 k j a b⟩ (fun k hk => ?_)⟩
  · rw [mu_c (by decide), mu_h] at hk; omega
  · rw [mu_c (by decide), mu_h] at hk; omega
theorem a_write {μ : Mem} (H : REL μ) {a t e f : Int} (ha : inR a) (ht : inR t) (he : inR e) (hf : inR f) : Agr mX11_write mX12_write [vi a, vi t, vi e, vi f] μ := by
  refine ⟨(cWrite μ a t e f).1, _, t_write H.ci ha ht he hf, ?_⟩
  rintro w m ⟨rfl, rfl⟩
  obtain ⟨hRB, hBOK⟩ := H.2.2.2.2.1
  have hc49 := hRB.1
  have hn := hRB.2.1
  by_cases c1 : (0 ≤ a ∧ a < μ 32 0) ∧ (0 ≤ t ∧ t < μ 32 0)
  · by_cases c2 : (1 ≤ e ∧ e ≤ 3) ∧ 0 ≤ f ∧ f ≤ 9999
    · by_cases c3 : 20 ≤ μ 160 4
      · have h1 : cWrite μ a t e f = (-1000000004, μ) := by unfold cWrite; rw [if_pos c1, if_pos c2, if_pos c3]
        have h2 : mWrite μ a t e f = (-1000000004, μ) := by unfold mWrite; rw [if_pos c1, if_pos c2, if_pos (by omega)]
        rw [h1]
        refine ⟨rfl, _, r_write H.gi (by omega) ha ht he hf, ?_⟩
        rintro w2 m2 ⟨rfl, rfl⟩
        rw [h2]; exact ⟨rfl, H⟩
      · obtain ⟨n, en⟩ : ∃ n : Nat, μ 160 4 = (n : Int) := ⟨(μ 160 4).toNat, by omega⟩
        have etn : (μ 160 4).toNat = n := by omega
        obtain ⟨m1, hm1⟩ : ∃ m1, m1 = mu (mu (mu (mu (mu μ 161 n a) 162 n t) 163 n e) 164 n f) 160 4 (μ 160 4 + 1) := ⟨_, rfl⟩
        have h1 : cWrite μ a t e f = (μ 160 4 + 1, m1) := by unfold cWrite; rw [if_pos c1, if_pos c2, if_neg c3, etn, ← hm1]
        have hm : ∀ k, (k < 160 ∨ 164 < k) → m1 k = μ k := fun k hk => by rw [hm1, mu_ne (by omega), mu_ne (by omega), mu_ne (by omega), mu_ne (by omega), mu_ne (by omega)]
        have e256 : m1 256 = μ 256 := hm 256 (by decide)
        have hG1 : GI m1 := GI_cg (fun k hk => hm k (by omega)) ⟨fun k a b => hm k (by omega), fun j _ => by rw [e256]⟩ H.gi
        obtain ⟨m2, hm2⟩ : ∃ m2, m2 = mu (mu (mu (mu (mu m1 307 n a) 308 n t) 309 n e) 310 n f) 256 49 (μ 160 4 + 1) := ⟨_, rfl⟩
        have h2 : mWrite m1 a t e f = (μ 160 4 + 1, m2) := by
          unfold mWrite
          rw [hm 32 (by decide), e256, hc49, if_pos c1, if_pos c2, if_neg c3, etn, ← hm2]
        rw [h1]
        refine ⟨rfl, _, r_write hG1 (by rw [e256]; omega) ha ht he hf, ?_⟩
        rintro w2 m3 ⟨rfl, rfl⟩
        rw [h2]
        refine ⟨rfl, ?_⟩
        show REL m2
        have g : ∀ k, ((k < 307 ∨ 310 < k) ∧ k ≠ 256) → m2 k = m1 k := fun k hk => by rw [hm2, mu_ne (by omega), mu_ne (by omega), mu_ne (by omega), mu_ne (by omega), mu_ne (by omega)]
        have e1 : ∀ k, m2 161 k = if k = n then a else μ 161 k := fun k => by rw [g 161 (by decide), hm1]; simp [mu]
        have e2 : ∀ k, m2 162 k = if k = n then t else μ 162 k := fun k => by rw [g 162 (by decide), hm1]; simp [mu]
        have e3 : ∀ k, m2 163 k = if k = n then e else μ 163 k := fun k => by rw [g 163 (by decide), hm1]; simp [mu]
        have e3' : ∀ k, m2 164 k = if k = n then f else μ 164 k := fun k => by rw [g 164 (by decide), hm1]; simp [mu]
        have e4 : ∀ k, m2 307 k = if k = n then a else μ 307 k := fun k => by rw [hm2, hm1]; simp [mu]
        have e5 : ∀ k, m2 308 k = if k = n then t else μ 308 k := fun k => by rw [hm2, hm1]; simp [mu]
        have e6 : ∀ k, m2 309 k = if k = n then e else μ 309 k := fun k => by rw [hm2, hm1]; simp [mu]
        have e6' : ∀ k, m2 310 k = if k = n then f else μ 310 k := fun k => by rw [hm2, hm1]; simp [mu]
        have e7 : m2 160 4 = n + 1 := by rw [g 160 (by decide), hm1, mu_h, en]
        have e8 : m2 256 49 = n + 1 := by rw [hm2, mu_h, en]
        have e9 : m2 32 = μ 32 := by rw [g 32 (by decide), hm 32 (by decide)]
        refine REL_book H (fun k hk => by rw [g k (by omega), hm k (by omega)]) (fun j hj => by rw [hm2, mu_j hj, mu_c (by decide), mu_c (by decide), mu_c (by decide), mu_c (by decide), e256]) ⟨by rw [e7, e8], by omega, fun k hk => ?_⟩ ⟨by omega, fun k j x y => ?_⟩
        · rw [e7] at hk
          rw [e1, e2, e3, e3', e4, e5, e6, e6', e9]
          by_cases c : k = n
          · simp only [if_pos c]
            exact ⟨⟨trivial, trivial, trivial, trivial⟩, c1.1, c1.2, c2.1, c2.2⟩
          · simp only [if_neg c]
            exact hRB.2.2 k (by omega)
        · rcases (show k = 161 ∨ k = 162 ∨ k = 163 ∨ k = 164 by omega) with rfl | rfl | rfl | rfl
          · rw [e1]; split; exact ha; exact hBOK.2 _ j (by decide) (by decide)
          · rw [e2]; split; exact ht; exact hBOK.2 _ j (by decide) (by decide)
          · rw [e3]; split; exact he; exact hBOK.2 _ j (by decide) (by decide)
          · rw [e3']; split; exact hf; exact hBOK.2 _ j (by decide) (by decide)
    · have h1 : cWrite μ a t e f = (-1000000002, μ) := by unfold cWrite; rw [if_pos c1, if_neg c2]
      have h2 : mWrite μ a t e f = (-1000000002, μ) := by unfold mWrite; rw [if_pos c1, if_neg c2]
      rw [h1]
      refine ⟨rfl, _, r_write H.gi (by omega) ha ht he hf, ?_⟩
      rintro w2 m2 ⟨rfl, rfl⟩
      rw [h2]; exact ⟨rfl, H⟩
  · have h1 : cWrite μ a t e f = (-1000000001, μ) := by unfold cWrite; rw [if_neg c1]
    have h2 : mWrite μ a t e f = (-1000000001, μ) := by unfold mWrite; rw [if_neg c1]
    rw [h1]
    refine ⟨rfl, _, r_write H.gi (by omega) ha ht he hf, ?_⟩
    rintro w2 m2 ⟨rfl, rfl⟩
    rw [h2]; exact ⟨rfl, H⟩
theorem a_tear {μ : Mem} (H : REL μ) : Agr mX11_tear mX12_tear [] μ := by
  refine ⟨μ 160 4, _, t_tear, ?_⟩
  rintro w m ⟨rfl, rfl⟩
  refine ⟨rfl, _, r_tear, ?_⟩
  rintro w2 m2 ⟨rfl, rfl⟩
  obtain ⟨hRB, hBOK⟩ := H.2.2.2.2.1
  refine ⟨by rw [mu_c (by decide), hRB.1], REL_book H (fun k hk => by rw [mu_ne (by omega), mu_ne (by omega)]) (fun j hj => by rw [mu_j hj, mu_c (by decide)]) ⟨by rw [mu_h, mu_c (by decide), mu_h], by rw [mu_c (by decide), mu_h]; decide, fun k hk => ?_⟩ ⟨by rw [mu_c (by decide), mu_h]; decide, fun k j a b => by rw [mu_c (by omega), mu_c (by omega)]; exact hBOK.2 k j a b⟩⟩
  rw [mu_c (by decide), mu_h] at hk; omega
theorem bv_byte (x : BitVec 64) (s : Nat) (hs : s ≤ 56) : (x >>> s).setWidth 32 &&& 255#32 = ((x.sshiftRight s) &&& 255#64).setWidth 32 := by
  have a32 : ∀ i, i < 32 → (255#32).getLsbD i = decide (i < 8) := by decide
  have a64 : ∀ i, i < 32 → (255#64).getLsbD i = decide (i < 8) := by decide
  apply BitVec.eq_of_getLsbD_eq
  intro i hi
  rw [BitVec.getLsbD_and, BitVec.getLsbD_setWidth, BitVec.getLsbD_setWidth, BitVec.getLsbD_and, BitVec.getLsbD_ushiftRight, BitVec.getLsbD_sshiftRight, a32 i hi, a64 i hi]
  by_cases c : i < 8
  · simp [c, show s + i < 64 by omega, hi, show ¬ 64 ≤ i by omega]
  · simp [c]
theorem bv_255 (x : BitVec 32) : 0 ≤ (x &&& 255#32).toInt ∧ (x &&& 255#32).toInt ≤ 255 := by
  have h : (x &&& 255#32).toNat ≤ 255 := by rw [BitVec.toNat_and]; exact Nat.and_le_right
  rw [BitVec.toInt_eq_toNat_cond]
  split <;> omega
theorem se32 (x : BitVec 64) : x.signExtend 32 = x.setWidth 32 := by
  apply BitVec.eq_of_getLsbD_eq
  intro i hi
  rw [BitVec.getLsbD_signExtend, BitVec.getLsbD_setWidth]
  simp [hi, show i < 64 by omega]
theorem shc : ∀ k : Nat, k < 8 → ((Int32.ofInt (8 * (k : Int))).toInt64.toUInt64 &&& Int64.toUInt64 63).toBitVec % 64 = BitVec.ofNat 64 (8 * k) ∧ ((Int32.ofInt (8 * (k : Int))).toInt64 &&& 63).toBitVec.smod 64 = BitVec.ofNat 64 (8 * k) ∧ (BitVec.ofNat 64 (8 * k)).toNat = 8 * k := by decide +kernel
theorem by8_mby (b : Int) (k : Nat) (hk : k < 8) : by8 b k = mby b k ∧ 0 ≤ mby b k ∧ mby b k ≤ 255 := by
  obtain ⟨s1, s2, s3⟩ := shc k hk
  have e1 : by8 b k = (((Int64.ofInt b).toBitVec >>> (8 * k)).setWidth 32 &&& 255#32).toInt := by
    unfold by8 iand l2i lushr
    rw [zl_of, zi_of]
    show BitVec.toInt (Int32.toBitVec _) = _
    apply congrArg BitVec.toInt
    rw [Int32.toBitVec_and, Int64.toBitVec_toInt32, UInt64.toBitVec_toInt64, UInt64.toBitVec_shiftRight, s1, Int64.toBitVec_toUInt64, BitVec.ushiftRight_eq', s3, se32]
    rfl
  have e2 : mby b k = (((((Int64.ofInt b).toBitVec.sshiftRight (8 * k)) &&& 255#64)).setWidth 32).toInt := by
    unfold mby l2i landd lshr
    rw [zl_of, zl_of]
    show BitVec.toInt (Int32.toBitVec _) = _
    apply congrArg BitVec.toInt
    rw [Int64.toBitVec_toInt32, Int64.toBitVec_and, Int64.toBitVec_shiftRight, s2, BitVec.sshiftRight_eq', s3, se32]
    rfl
  rw [e1, e2, bv_byte _ _ (by omega)]
  refine ⟨rfl, ?_⟩
  rw [← bv_byte _ _ (by omega)]
  exact bv_255 _

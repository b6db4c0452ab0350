theorem feedL_c {b : Int} {c : Nat} (h1 : c ≠ 16) (h2 : c ≠ 17) : ∀ (n : Nat) (m : Mem), feedL b n m c = m c := by
  intro n
  induction n with
  | zero => intro m; rfl
  | succ n ih => intro m; rw [feedL_s, ih]; unfold ap1; rw [mu_ne h1, mu_ne h2]
theorem mfeedL_c {b : Int} {c : Nat} (h1 : c ≠ 256) (h2 : c ≠ 274) : ∀ (n : Nat) (m : Mem), mfeedL b n m c = m c := by
  intro n
  induction n with
  | zero => intro m; rfl
  | succ n ih => intro m; rw [mfeedL_s, ih]; unfold map1; rw [mu_ne h1, mu_ne h2]
theorem mfeedL_j {b : Int} {j : Nat} (h1 : j ≠ 18) : ∀ (n : Nat) (m : Mem), mfeedL b n m 256 j = m 256 j := by
  intro n
  induction n with
  | zero => intro m; rfl
  | succ n ih => intro m; rw [mfeedL_s, ih]; unfold map1; rw [mu_j h1, mu_c (by decide)]
theorem fd_pair {b : Int} : ∀ (n : Nat) (m k : Mem) (c : Nat), n ≤ 8 → m 16 1 = (c : Int) → k 256 18 = (c : Int) → c + n ≤ 400 → (∀ i, i < c → k 274 i = m 17 i) → B8 m → (∀ i, 0 ≤ k 274 i ∧ k 274 i ≤ 255) → feedL b n m 16 1 = ((c + n : Nat) : Int) ∧ mfeedL b n k 256 18 = ((c + n : Nat) : Int) ∧ (∀ i, i < c + n → mfeedL b n k 274 i = feedL b n m 17 i) ∧ B8 (feedL b n m) ∧ ∀ i, 0 ≤ mfeedL b n k 274 i ∧ mfeedL b n k 274 i ≤ 255 := by
  intro n
  induction n with
  | zero => intro m k c h1 h2 h3 h4 h5 h6 h7; exact ⟨h2, h3, h5, h6, h7⟩
  | succ n ih =>
    intro m k c h1 h2 h3 h4 h5 h6 h7
    rw [feedL_s, mfeedL_s]
    obtain ⟨b1, b2, b3⟩ := by8_mby b n (by omega)
    have e1 : ∀ i, ap1 m (by8 b n) 17 i = if i = c then mby b n else m 17 i := fun i => by
      unfold ap1
      rw [mu_c (by decide), mu_ap, h2, b1]
      by_cases q : i = c
      · rw [if_pos ⟨rfl, by omega⟩, if_pos q]
      · rw [if_neg (by omega), if_neg q]
    have e2 : ∀ i, map1 k (mby b n) 274 i = if i = c then mby b n else k 274 i := fun i => by
      unfold map1
      rw [mu_c (by decide), mu_ap, h3]
      by_cases q : i = c
      · rw [if_pos ⟨rfl, by omega⟩, if_pos q]
      · rw [if_neg (by omega), if_neg q]
    have := ih (ap1 m (by8 b n)) (map1 k (mby b n)) (c + 1) (by omega) (by unfold ap1; rw [mu_h, h2]; omega) (by unfold map1; rw [mu_h, h3]; omega) (by omega) (fun i hi => by
      rw [e1, e2]
      by_cases q : i = c
      · rw [if_pos q, if_pos q]
      · rw [if_neg q, if_neg q]; exact h5 i (by omega)) (fun i => by rw [e1]; split; exact ⟨b2, b3⟩; exact h6 i) (fun i => by rw [e2]; split; exact ⟨b2, b3⟩; exact h7 i)
    rw [show c + 1 + n = c + (n + 1) by omega] at this
    exact this
theorem a_feed {μ : Mem} (H : REL μ) {n b : Int} (hn : inR n) : Agr mX11_feed mX12_feed [vi n, vl b] μ := by
  obtain ⟨hT, hB, hM, hc, hq⟩ := H.2.2.2.2.2.1
  refine ⟨(cFeed μ n b).1, _, t_feed hT hn, ?_⟩
  rintro w m ⟨rfl, rfl⟩
  have hT' : 0 ≤ μ 16 1 ∧ μ 16 1 ≤ 400 := hT
  by_cases c1 : 1 ≤ n ∧ n ≤ 8
  · by_cases c2 : n ≤ 400 - μ 16 1
    · have h1 : cFeed μ n b = (μ 16 1 + n, feedL b n.toNat μ) := by unfold cFeed; rw [if_pos c1, if_pos c2]
      have e18 : feedL b n.toNat μ 256 18 = μ 16 1 := by rw [feedL_c (by decide) (by decide), hc]
      have h2 : mFeed (feedL b n.toNat μ) n b = (μ 16 1 + n, mfeedL b n.toNat (feedL b n.toNat μ)) := by unfold mFeed; rw [if_pos c1, e18, if_neg (by omega)]
      rw [h1]
      refine ⟨rfl, _, r_feed (by show 0 ≤ feedL b n.toNat μ 256 18 ∧ feedL b n.toNat μ 256 18 ≤ 400; rw [e18]; exact hT') hn, ?_⟩
      rintro w2 m2 ⟨rfl, rfl⟩
      rw [h2]
      refine ⟨rfl, ?_⟩
      show REL (mfeedL b n.toNat (feedL b n.toNat μ))
      obtain ⟨p1, p2, p3, p4, p5⟩ := fd_pair (b := b) n.toNat μ (feedL b n.toNat μ) (μ 16 1).toNat (by omega) (by omega) (by rw [e18]; omega) (by omega) (fun i hi => by rw [feedL_c (by decide) (by decide)]; exact hq i (by omega)) hB (by rw [feedL_c (by decide) (by decide)]; exact hM.2)
      have g16 : mfeedL b n.toNat (feedL b n.toNat μ) 16 = feedL b n.toNat μ 16 := mfeedL_c (by decide) (by decide) _ _
      have g17 : mfeedL b n.toNat (feedL b n.toNat μ) 17 = feedL b n.toNat μ 17 := mfeedL_c (by decide) (by decide) _ _
      refine REL_text H (fun k hk => by rw [mfeedL_c (by omega) (by omega), feedL_c (by omega) (by omega)]) (fun j hj => by rw [mfeedL_j hj, feedL_c (by decide) (by decide)]) ⟨?_, ?_, ⟨?_, p5⟩, ?_, ?_⟩
      · unfold TOK; rw [g16, p1]; omega
      · unfold B8; rw [g17]; exact p4
      · rw [p2]; omega
      · rw [g16, p1, p2]
      · rw [g16, g17, p1]; exact fun i hi => p3 i (by omega)
    · have h1 : cFeed μ n b = (-1000000004, μ) := by unfold cFeed; rw [if_pos c1, if_neg c2]
      have h2 : mFeed μ n b = (-1000000004, μ) := by unfold mFeed; rw [if_pos c1, if_pos (by omega)]
      rw [h1]
      refine ⟨rfl, _, r_feed (by show 0 ≤ μ 256 18 ∧ μ 256 18 ≤ 400; rw [hc]; exact hT') hn, ?_⟩
      rintro w2 m2 ⟨rfl, rfl⟩
      rw [h2]; exact ⟨rfl, H⟩
  · have h1 : cFeed μ n b = (-1000000002, μ) := by unfold cFeed; rw [if_neg c1]
    have h2 : mFeed μ n b = (-1000000002, μ) := by unfold mFeed; rw [if_neg c1]
    rw [h1]
    refine ⟨rfl, _, r_feed (by show 0 ≤ μ 256 18 ∧ μ 256 18 ≤ 400; rw [hc]; exact hT') hn, ?_⟩
    rintro w2 m2 ⟨rfl, rfl⟩
    rw [h2]; exact ⟨rfl, H⟩
/-! images -/
theorem IM_cg2 {μ ν : Mem} {i m q a : Nat} (hP : μ 32 0 ≤ 9) (h : LAg μ ν) (g : OAg q μ ν) (hm : ν m = μ m) (h1 : ∀ x, a ≤ x → x < a + 92 → ν 311 x = μ 311 x) (h2 : ν 312 i = μ 312 i) (H : IM μ i m q a) : IM ν i m q a := by
  obtain ⟨a1, a2, a3, a4⟩ := H
  refine ⟨by rw [h2, hm]; exact a1, by rw [h2]; exact a2, POK_cg g a3, fun hk => ?_⟩
  rw [h2] at hk
  obtain ⟨b1, b2, b3, b4, b5⟩ := a4 hk
  refine ⟨PO_cg h g b1, fun p hp => ?_, fun p t hp ht hx => ?_, ?_, fun p hp => ?_⟩
  · rw [h 32 (by decide) (by decide)] at hp
    rw [g.1, g.2.1, ← b2 p hp]
    exact h1 _ (by omega) (by omega)
  · rw [h 32 (by decide) (by decide)] at hp ht
    rw [h (32 + 13) (by decide) (by decide)] at hx
    rw [g.2.2, ← b3 p t hp ht hx]
    exact h1 _ (by omega) (by omega)
  · rw [h1 _ (by omega) (by omega), hm]; exact b4
  · rw [h1 _ (by omega) (by omega)]; exact b5 p hp
/-- the posts o hold what the posts q held -/
theorem POK_bcm {μ ν : Mem} {o q : Nat} (h1 : ∀ b, ν (o + 2) b = if b < 9 then μ (q + 2) b else μ (o + 2) b) (h2 : ∀ b, ν (o + 3) b = if b < 9 then μ (q + 3) b else μ (o + 3) b) (h3 : ∀ b, ν (o + 4) b = if b < 81 then μ (q + 4) b else μ (o + 4) b) (ho : POK μ o) (hq : POK μ q) : POK ν o := by
  refine ⟨fun p => ?_, fun p => ?_, fun p => ?_⟩
  · rw [h1]; split; exact hq.1 p; exact ho.1 p
  · rw [h2]; split; exact hq.2.1 p; exact ho.2.1 p
  · rw [h3]; split; exact hq.2.2 p; exact ho.2.2 p
theorem PO_bcm {μ ν : Mem} {o q : Nat} (hP : μ 32 0 ≤ 9) (h : LAg μ ν) (h1 : ∀ b, ν (o + 2) b = if b < 9 then μ (q + 2) b else μ (o + 2) b) (h2 : ∀ b, ν (o + 3) b = if b < 9 then μ (q + 3) b else μ (o + 3) b) (h3 : ∀ b, ν (o + 4) b = if b < 81 then μ (q + 4) b else μ (o + 4) b) (ho : POK μ o) (hq : PO μ q) : PO ν o := by
  refine ⟨POK_bcm h1 h2 h3 ho hq.1, fun p hp hs => ?_, fun p t hp ht => ?_⟩
  · rw [h 32 (by decide) (by decide)] at hp
    rw [h (32 + 10) (by decide) (by decide)] at hs ⊢
    rw [h1, if_pos (by omega)]
    exact hq.2.1 p hp hs
  · rw [h 32 (by decide) (by decide)] at hp ht
    rw [h (32 + 12) (by decide) (by decide), h (32 + 13) (by decide) (by decide), h3, if_pos (by omega)]
    exact hq.2.2 p t hp ht
theorem bcm_2 {μ : Mem} {o q : Nat} (b : Nat) : bcm μ o q (o + 2) b = if b < 9 then μ (q + 2) b else μ (o + 2) b := by
  unfold bcm
  by_cases c : b < 9
  · rw [if_pos (Or.inl ⟨rfl, c⟩), if_pos c]; congr 1; omega
  · rw [if_neg (by omega), if_neg c]
theorem bcm_3 {μ : Mem} {o q : Nat} (b : Nat) : bcm μ o q (o + 3) b = if b < 9 then μ (q + 3) b else μ (o + 3) b := by
  unfold bcm
  by_cases c : b < 9
  · rw [if_pos (Or.inr (Or.inl ⟨rfl, c⟩)), if_pos c]; congr 1; omega
  · rw [if_neg (by omega), if_neg c]
theorem bcm_4 {μ : Mem} {o q : Nat} (b : Nat) : bcm μ o q (o + 4) b = if b < 81 then μ (q + 4) b else μ (o + 4) b := by
  unfold bcm
  by_cases c : b < 81
  · rw [if_pos (Or.inr (Or.inr ⟨rfl, c⟩)), if_pos c]; congr 1; omega
  · rw [if_neg (by omega), if_neg c]
/-- an image is taken -/
theorem keep_im {μ m1 ν : Mem} {i im q a : Nat} (H : REL μ) (hq : POK μ q) (hla : LAg μ ν) (o1 : ∀ b, ν (q + 2) b = if b < 9 then μ (80 + 2) b else μ (q + 2) b) (o2 : ∀ b, ν (q + 3) b = if b < 9 then μ (80 + 3) b else μ (q + 3) b) (o3 : ∀ b, ν (q + 4) b = if b < 81 then μ (80 + 4) b else μ (q + 4) b) (hi1 : ν im 1 = μ 176 0) (hi2 : ν im 2 = 1) (h12 : ν 312 i = 1) (hm : m1 256 = μ 256 ∧ m1 270 = μ 270 ∧ m1 271 = μ 271 ∧ m1 272 = μ 272) (h11 : ν 311 = up (kpR m1 a 9 81) (a + 91) (m1 256 16)) : IM ν i im q a := by
  have hP := H.1.1.1
  have hB := H.2.2.2.2.2.2.2.2.1
  have e0 : ∀ p : Nat, p < 9 → ν 311 (a + p) = μ 270 p + 10 * μ 271 p := fun p hp => by
    rw [h11]; unfold up kpR
    rw [if_neg (by omega), if_pos (by omega), hm.2.1, hm.2.2.1, show ((a + p : Nat) - (a : Int)).toNat = p by omega]
  refine ⟨by rw [h12, hi2], by rw [h12]; exact Or.inr rfl, POK_bcm o1 o2 o3 hq H.2.1.1, fun _ => ⟨PO_bcm hP.2 hla o1 o2 o3 hq H.2.1, fun p hp => ?_, fun p t hp ht hx => ?_, ⟨?_, ?_⟩, fun p hp => ?_⟩⟩
  · rw [hla 32 (by decide) (by decide)] at hp
    have := H.2.2.1.2.2.2.2.2.1 p hp
    rw [e0 p (by omega), o1, o2, if_pos (by omega), if_pos (by omega), this.1, this.2]
  · rw [hla 32 (by decide) (by decide)] at hp ht
    rw [hla (32 + 13) (by decide) (by decide)] at hx
    have := H.2.2.1.2.2.2.2.2.2 p t hp ht hx
    rw [h11, o3, if_pos (by omega), ← this]
    unfold up kpR
    rw [if_neg (by omega), if_neg (by omega), if_pos (by omega), hm.2.2.2]
    congr 1
    omega
  · rw [h11, hi1]; unfold up; rw [if_pos rfl, hm.1]; exact H.2.2.2.2.2.2.2.1.1
  · rw [hi1]; exact H.2.2.2.2.2.2.2.1.2
  · rw [e0 p hp]
    have b1 := hB.2.2.1 p
    have b2 := hB.2.2.2.1 p
    omega
theorem kpR_in {m : Mem} (hB : MB m) (hI : ∀ x, inR (m 311 x)) (a : Int) : ∀ x, inR (kpR m a 9 81 x) := by
  intro x
  unfold kpR
  split
  · have := hB.2.2.1 (x - a).toNat
    have := hB.2.2.2.1 (x - a).toNat
    omega
  · split
    · exact hB.2.2.2.2.2.2.1 _
    · exact hI x
theorem a_keep {μ : Mem} (H : REL μ) {i : Int} (hi : inR i) : Agr mX11_keep mX12_keep [vi i] μ := by
  refine ⟨(cKeep μ i).1, _, t_keep H.ci hi, ?_⟩
  rintro w m ⟨rfl, rfl⟩
  refine ⟨rfl, _, r_keep hi, ?_⟩
  rintro w2 m2 ⟨rfl, rfl⟩
  have hP := H.1.1.1
  obtain ⟨i0, i1, iB⟩ := H.2.2.2.2.2.2.2.2.2.1
  have hMB := H.2.2.2.2.2.2.2.2.1
  have hSD := H.2.2.2.2.2.2.2.1
  by_cases c0 : i = 0
  · subst c0
    obtain ⟨m1, hm1⟩ : ∃ m1, m1 = mu (mu (bcm μ 208 80) 192 1 (μ 176 0)) 192 2 1 := ⟨_, rfl⟩
    have h1 : cKeep μ 0 = (1, m1) := by unfold cKeep; rw [if_pos rfl, ← hm1]
    have hm : ∀ k, (k ≠ 192 ∧ k ≠ 210 ∧ k ≠ 211 ∧ k ≠ 212) → m1 k = μ k := fun k hk => by rw [hm1, mu_ne (by omega), mu_ne (by omega), bcm_out (by omega) (by omega) (by omega)]
    obtain ⟨ν, hν⟩ : ∃ ν, ν = mu (mw m1 311 (up (kpR m1 0 9 81) 91 (m1 256 16))) 312 0 1 := ⟨_, rfl⟩
    have h2 : mKeep m1 0 = (1, ν) := by unfold mKeep; rw [if_pos (by decide), hν]; rfl
    rw [h1, h2]
    refine ⟨rfl, ?_⟩
    show REL ν
    have g : ∀ k, k ≠ 311 → k ≠ 312 → ν k = m1 k := fun k a b => by rw [hν, mu_ne b, mw_ne a]
    have hla : LAg μ ν := fun k a b => by rw [g k (by omega) (by omega), hm k (by omega)]
    have hb1 : MB m1 := MB_cg (by rw [hm 256 (by decide)]) (by rw [hm 256 (by decide)]) (fun k a b => hm k (by omega)) hMB
    have e311 : ν 311 = up (kpR m1 0 9 81) 91 (m1 256 16) := by rw [hν, mu_ne (by decide), mw_self]
    have n2 : ∀ b, ν (208 + 2) b = if b < 9 then μ (80 + 2) b else μ (208 + 2) b := fun b => by rw [g (208 + 2) (by decide) (by decide), hm1, mu_c (by decide), mu_c (by decide)]; exact bcm_2 b
    have n3 : ∀ b, ν (208 + 3) b = if b < 9 then μ (80 + 3) b else μ (208 + 3) b := fun b => by rw [g (208 + 3) (by decide) (by decide), hm1, mu_c (by decide), mu_c (by decide)]; exact bcm_3 b
    have n4 : ∀ b, ν (208 + 4) b = if b < 81 then μ (80 + 4) b else μ (208 + 4) b := fun b => by rw [g (208 + 4) (by decide) (by decide), hm1, mu_c (by decide), mu_c (by decide)]; exact bcm_4 b
    refine REL_img H (fun k hk => by rw [g k (by omega) (by omega), hm k (by omega)]) (fun j _ => by rw [g 256 (by decide) (by decide), hm 256 (by decide)]) (keep_im (a := 0) H i0.2.2.1 hla n2 n3 n4 ?_ ?_ ?_ ⟨hm 256 (by decide), hm 270 (by decide), hm 271 (by decide), hm 272 (by decide)⟩ e311) (IM_cg2 hP.2 hla ⟨by rw [g _ (by decide) (by decide), hm _ (by decide)], by rw [g _ (by decide) (by decide), hm _ (by decide)], by rw [g _ (by decide) (by decide), hm _ (by decide)]⟩ (by rw [g _ (by decide) (by decide), hm _ (by decide)]) (fun x a b => ?_) (by rw [hν, mu_j (by decide), mw_c (by decide), hm 312 (by decide)]) i1) ⟨?_, fun j => ?_⟩
    · rw [g 192 (by decide) (by decide), hm1, mu_j (by decide), mu_h]
    · rw [g 192 (by decide) (by decide), hm1, mu_h]
    · rw [hν, mu_h]
    · rw [e311]; unfold up kpR; rw [if_neg (by omega), if_neg (by omega), if_neg (by omega), hm 311 (by decide)]
    · rw [e311]; exact up_in (kpR_in hb1 (by rw [hm 311 (by decide)]; exact iB.1) 0) (by have := hb1.2.2.2.2.2.2.2; omega)
    · rw [hν, mu_ap]; split
      · exact Or.inr rfl
      · rw [mw_c (by decide), hm 312 (by decide)]; exact iB.2 j
  · by_cases c1 : i = 1
    · subst c1
      obtain ⟨m1, hm1⟩ : ∃ m1, m1 = mu (mu (bcm μ 240 80) 224 1 (μ 176 0)) 224 2 1 := ⟨_, rfl⟩
      have h1 : cKeep μ 1 = (1, m1) := by unfold cKeep; rw [if_neg (by decide), if_pos rfl, ← hm1]
      have hm : ∀ k, (k ≠ 224 ∧ k ≠ 242 ∧ k ≠ 243 ∧ k ≠ 244) → m1 k = μ k := fun k hk => by rw [hm1, mu_ne (by omega), mu_ne (by omega), bcm_out (by omega) (by omega) (by omega)]
      obtain ⟨ν, hν⟩ : ∃ ν, ν = mu (mw m1 311 (up (kpR m1 100 9 81) 191 (m1 256 16))) 312 1 1 := ⟨_, rfl⟩
      have h2 : mKeep m1 1 = (1, ν) := by unfold mKeep; rw [if_pos (by decide), hν]; rfl
      rw [h1, h2]
      refine ⟨rfl, ?_⟩
      show REL ν
      have g : ∀ k, k ≠ 311 → k ≠ 312 → ν k = m1 k := fun k a b => by rw [hν, mu_ne b, mw_ne a]
      have hla : LAg μ ν := fun k a b => by rw [g k (by omega) (by omega), hm k (by omega)]
      have hb1 : MB m1 := MB_cg (by rw [hm 256 (by decide)]) (by rw [hm 256 (by decide)]) (fun k a b => hm k (by omega)) hMB
      have e311 : ν 311 = up (kpR m1 100 9 81) 191 (m1 256 16) := by rw [hν, mu_ne (by decide), mw_self]
      have n2 : ∀ b, ν (240 + 2) b = if b < 9 then μ (80 + 2) b else μ (240 + 2) b := fun b => by rw [g (240 + 2) (by decide) (by decide), hm1, mu_c (by decide), mu_c (by decide)]; exact bcm_2 b
      have n3 : ∀ b, ν (240 + 3) b = if b < 9 then μ (80 + 3) b else μ (240 + 3) b := fun b => by rw [g (240 + 3) (by decide) (by decide), hm1, mu_c (by decide), mu_c (by decide)]; exact bcm_3 b
      have n4 : ∀ b, ν (240 + 4) b = if b < 81 then μ (80 + 4) b else μ (240 + 4) b := fun b => by rw [g (240 + 4) (by decide) (by decide), hm1, mu_c (by decide), mu_c (by decide)]; exact bcm_4 b
      refine REL_img H (fun k hk => by rw [g k (by omega) (by omega), hm k (by omega)]) (fun j _ => by rw [g 256 (by decide) (by decide), hm 256 (by decide)]) (IM_cg2 hP.2 hla ⟨by rw [g _ (by decide) (by decide), hm _ (by decide)], by rw [g _ (by decide) (by decide), hm _ (by decide)], by rw [g _ (by decide) (by decide), hm _ (by decide)]⟩ (by rw [g _ (by decide) (by decide), hm _ (by decide)]) (fun x a b => ?_) (by rw [hν, mu_j (by decide), mw_c (by decide), hm 312 (by decide)]) i0) (keep_im (a := 100) H i1.2.2.1 hla n2 n3 n4 ?_ ?_ ?_ ⟨hm 256 (by decide), hm 270 (by decide), hm 271 (by decide), hm 272 (by decide)⟩ e311) ⟨?_, fun j => ?_⟩
      · rw [e311]; unfold up kpR; rw [if_neg (by omega), if_neg (by omega), if_neg (by omega), hm 311 (by decide)]
      · rw [g 224 (by decide) (by decide), hm1, mu_j (by decide), mu_h]
      · rw [g 224 (by decide) (by decide), hm1, mu_h]
      · rw [hν, mu_h]
      · rw [e311]; exact up_in (kpR_in hb1 (by rw [hm 311 (by decide)]; exact iB.1) 100) (by have := hb1.2.2.2.2.2.2.2; omega)
      · rw [hν, mu_ap]; split
        · exact Or.inr rfl
        · rw [mw_c (by decide), hm 312 (by decide)]; exact iB.2 j
    · have h1 : cKeep μ i = (-1000000001, μ) := by unfold cKeep; rw [if_neg c0, if_neg c1]
      have h2 : mKeep μ i = (-1000000001, μ) := by unfold mKeep; rw [if_neg (by omega)]
      rw [h1, h2]; exact ⟨rfl, H⟩
/-- an image is given back -/
theorem back_rel {μ m1 ν : Mem} {i im q a : Nat} (H : REL μ) (hI : IM μ i im q a) (hk : μ 312 i = 1) (hm1 : m1 = mu (bcm μ 80 q) 176 0 (μ im 1)) (hν : ν = mu (gb1 m1 a 9 81) 256 16 (m1 311 (a + 91))) (hq : 176 < q) (him : 176 < im) (hq2 : q < 256) : REL ν := by
  have hP := H.1.1.1
  obtain ⟨_, _, _, hK⟩ := hI
  obtain ⟨k1, k2, k3, k4, k5⟩ := hK hk
  have hMB := H.2.2.2.2.2.2.2.2.1
  have iB := H.2.2.2.2.2.2.2.2.2.1.2.2
  have hm : ∀ k, (k ≠ 82 ∧ k ≠ 83 ∧ k ≠ 84 ∧ k ≠ 176) → m1 k = μ k := fun k hk => by rw [hm1, mu_ne (by omega), bcm_out (by omega) (by omega) (by omega)]
  have g : ∀ k, (k ≠ 256 ∧ k ≠ 270 ∧ k ≠ 271 ∧ k ≠ 272) → ν k = m1 k := fun k hk => by rw [hν, mu_ne (by omega), gb1_out (by omega) (by omega) (by omega)]
  have hla : LAg μ ν := fun k a b => by rw [g k (by omega), hm k (by omega)]
  have e311 : m1 311 = μ 311 := hm 311 (by decide)
  have n2 : ∀ b, ν (80 + 2) b = if b < 9 then μ (q + 2) b else μ (80 + 2) b := fun b => by rw [g (80 + 2) (by decide), hm1, mu_c (by decide)]; exact bcm_2 b
  have n3 : ∀ b, ν (80 + 3) b = if b < 9 then μ (q + 3) b else μ (80 + 3) b := fun b => by rw [g (80 + 3) (by decide), hm1, mu_c (by decide)]; exact bcm_3 b
  have n4 : ∀ b, ν (80 + 4) b = if b < 81 then μ (q + 4) b else μ (80 + 4) b := fun b => by rw [g (80 + 4) (by decide), hm1, mu_c (by decide)]; exact bcm_4 b
  have v0 : ∀ p : Nat, ν 270 p = if p < 9 then μ 311 (a + p) % 10 else μ 270 p := fun p => by
    rw [hν, mu_c (by decide)]; unfold gb1
    by_cases c : p < 9
    · rw [if_pos ⟨rfl, by omega⟩, if_pos c, e311]; congr 2
    · rw [if_neg (by omega), if_neg (by omega), if_neg (by omega), if_neg c, hm 270 (by decide)]
  have v1 : ∀ p : Nat, ν 271 p = if p < 9 then μ 311 (a + p) / 10 else μ 271 p := fun p => by
    rw [hν, mu_c (by decide)]; unfold gb1
    by_cases c : p < 9
    · rw [if_neg (by omega), if_pos ⟨rfl, by omega⟩, if_pos c, e311]; congr 2
    · rw [if_neg (by omega), if_neg (by omega), if_neg (by omega), if_neg c, hm 271 (by decide)]
  have v2 : ∀ p : Nat, ν 272 p = if p < 81 then μ 311 (a + 10 + p) else μ 272 p := fun p => by
    rw [hν, mu_c (by decide)]; unfold gb1
    by_cases c : p < 81
    · rw [if_neg (by omega), if_neg (by omega), if_pos ⟨rfl, by omega⟩, if_pos c, e311]; congr 1
    · rw [if_neg (by omega), if_neg (by omega), if_neg (by omega), if_neg c, hm 272 (by decide)]
  have hsd : ν 256 16 = μ im 1 ∧ ν 176 0 = μ im 1 := ⟨by rw [hν, mu_h, e311]; exact k4.1, by rw [g 176 (by decide), hm1, mu_h]⟩
  have e256 : ∀ j, j ≠ 16 → ν 256 j = μ 256 j := fun j hj => by rw [hν, mu_j hj, gb1_out (by decide) (by decide) (by decide), hm 256 (by decide)]
  refine REL_posts H (fun k hk => by rw [g k (by omega), hm k (by omega)]) e256 (PO_bcm hP.2 hla n2 n3 n4 H.2.1.1 k1) (fun p hp => ?_) (fun p t hp ht hx => ?_) ⟨?_, fun p => ?_, fun p => ?_, fun p => ?_, fun p => ?_, fun p => ?_, fun p => ?_, ?_⟩ ⟨by rw [hsd.1, hsd.2], by rw [hsd.2]; exact k4.2⟩
  · rw [v0, v1, n2, n3, if_pos (by omega), if_pos (by omega), if_pos (by omega), if_pos (by omega), k2 p hp]
    have b1 := k1.1.1 p
    omega
  · rw [v2, n4, if_pos (by omega), if_pos (by omega)]
    exact k3 p t hp ht hx
  · rw [e256 0 (by decide)]; exact hMB.1
  · rw [g 266 (by decide), hm 266 (by decide)]; exact hMB.2.1 p
  · rw [v0]; split
    · exact (k5 p (by omega)).1
    · exact hMB.2.2.1 p
  · rw [v1]; split
    · exact (k5 p (by omega)).2
    · exact hMB.2.2.2.1 p
  · rw [g 268 (by decide), hm 268 (by decide)]; exact hMB.2.2.2.2.1 p
  · rw [g 269 (by decide), hm 269 (by decide)]; exact hMB.2.2.2.2.2.1 p
  · rw [v2]; split
    · exact iB.1 _
    · exact hMB.2.2.2.2.2.2.1 p
  · rw [hsd.1]; exact k4.2
theorem a_goBack {μ : Mem} (H : REL μ) {i : Int} (hi : inR i) : Agr mX11_goBack mX12_goBack [vi i] μ := by
  refine ⟨(cBack μ i).1, _, t_goBack H.ci hi, ?_⟩
  rintro w m ⟨rfl, rfl⟩
  obtain ⟨i0, i1, iB⟩ := H.2.2.2.2.2.2.2.2.2.1
  have hm : ∀ k, (k ≠ 82 ∧ k ≠ 83 ∧ k ≠ 84 ∧ k ≠ 176) → (cBack μ i).2 k = μ k := fun k hk => by
    unfold cBack
    repeat' split
    all_goals first | rfl | (show mu _ _ _ _ k = _; rw [mu_ne (by omega), bcm_out (by omega) (by omega) (by omega)])
  refine ⟨rfl, _, r_goBack hi (by rw [hm 312 (by decide)]; exact iB.2) (by rw [hm 311 (by decide)]; exact iB.1) (fun h0 hk p hp => ?_), ?_⟩
  · rw [hm 312 (by decide)] at hk
    rw [hm 311 (by decide)]
    rcases (show i = 0 ∨ i = 1 by omega) with rfl | rfl
    · have hk : ¬ μ 312 0 = 0 := hk
      have := (i0.2.2.2 (by have := i0.2.1; omega)).2.2.2.2 p hp
      rw [show (100 * (0 : Int) + (p : Int)).toNat = 0 + p by omega]; omega
    · have hk : ¬ μ 312 1 = 0 := hk
      have := (i1.2.2.2 (by have := i1.2.1; omega)).2.2.2.2 p hp
      rw [show (100 * (1 : Int) + (p : Int)).toNat = 100 + p by omega]; omega
  rintro w2 m2 ⟨rfl, rfl⟩
  by_cases c0 : i = 0
  · subst c0
    by_cases d : μ 192 2 = 0
    · have h1 : cBack μ 0 = (-1000000003, μ) := by unfold cBack; rw [if_pos rfl, if_pos d]
      have h2 : mBack μ 0 = (-1000000003, μ) := by unfold mBack; rw [if_pos (by decide), if_pos (by have := i0.1; show μ 312 0 = 0; omega)]
      rw [h1, h2]; exact ⟨rfl, H⟩
    · have hk : μ 312 0 = 1 := by have := i0.1; have := i0.2.1; omega
      have h1 : cBack μ 0 = (1, mu (bcm μ 80 208) 176 0 (μ 192 1)) := by unfold cBack; rw [if_pos rfl, if_neg d]
      have h2 : ∀ m1 : Mem, m1 312 = μ 312 → mBack m1 0 = (1, mu (gb1 m1 0 9 81) 256 16 (m1 311 91)) := fun m1 e => by unfold mBack; rw [if_pos (by decide), e, if_neg (by show ¬ μ 312 0 = 0; omega)]; rfl
      rw [h1]
      show vi (mBack (mu (bcm μ 80 208) 176 0 (μ 192 1)) 0).1 = vi 1 ∧ REL (mBack (mu (bcm μ 80 208) 176 0 (μ 192 1)) 0).2
      rw [h2 (mu (bcm μ 80 208) 176 0 (μ 192 1)) (by rw [mu_ne (by decide), bcm_out (by decide) (by decide) (by decide)])]
      exact ⟨rfl, back_rel (a := 0) H i0 hk rfl rfl (by decide) (by decide) (by decide)⟩
  · by_cases c1 : i = 1
    · subst c1
      by_cases d : μ 224 2 = 0
      · have h1 : cBack μ 1 = (-1000000003, μ) := by unfold cBack; rw [if_neg (by decide), if_pos rfl, if_pos d]
        have h2 : mBack μ 1 = (-1000000003, μ) := by unfold mBack; rw [if_pos (by decide), if_pos (by have := i1.1; show μ 312 1 = 0; omega)]
        rw [h1, h2]; exact ⟨rfl, H⟩
      · have hk : μ 312 1 = 1 := by have := i1.1; have := i1.2.1; omega
        have h1 : cBack μ 1 = (1, mu (bcm μ 80 240) 176 0 (μ 224 1)) := by unfold cBack; rw [if_neg (by decide), if_pos rfl, if_neg d]
        have h2 : ∀ m1 : Mem, m1 312 = μ 312 → mBack m1 1 = (1, mu (gb1 m1 100 9 81) 256 16 (m1 311 191)) := fun m1 e => by unfold mBack; rw [if_pos (by decide), e, if_neg (by show ¬ μ 312 1 = 0; omega)]; rfl
        rw [h1]
        show vi (mBack (mu (bcm μ 80 240) 176 0 (μ 224 1)) 1).1 = vi 1 ∧ REL (mBack (mu (bcm μ 80 240) 176 0 (μ 224 1)) 1).2
        rw [h2 (mu (bcm μ 80 240) 176 0 (μ 224 1)) (by rw [mu_ne (by decide), bcm_out (by decide) (by decide) (by decide)])]
        exact ⟨rfl, back_rel (a := 100) H i1 hk rfl rfl (by decide) (by decide) (by decide)⟩
    · have h1 : cBack μ i = (-1000000001, μ) := by unfold cBack; rw [if_neg c0, if_neg c1]
      have h2 : mBack μ i = (-1000000001, μ) := by unfold mBack; rw [if_neg (by omega)]
      rw [h1, h2]; exact ⟨rfl, H⟩

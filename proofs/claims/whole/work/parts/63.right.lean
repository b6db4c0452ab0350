/-- how many of p, p + 1 .. are so -/
def cB (f : Int → Prop) [∀ x, Decidable (f x)] : Nat → Int → Int
  | 0, _ => 0
  | n + 1, p => (if f p then 1 else 0) + cB f n (p + 1)
theorem cB_s (f : Int → Prop) [∀ x, Decidable (f x)] (n : Nat) (p : Int) : cB f (n + 1) p = (if f p then 1 else 0) + cB f n (p + 1) := rfl
theorem cB_cg {f g : Int → Prop} [∀ x, Decidable (f x)] [∀ x, Decidable (g x)] : ∀ (n : Nat) (p : Int), (∀ k, p ≤ k → k < p + n → (f k ↔ g k)) → cB f n p = cB g n p := by
  intro n
  induction n with
  | zero => intros; rfl
  | succ n ih =>
    intro p h
    rw [cB_s, cB_s, ih (p + 1) (fun k a b => h k (by omega) (by omega))]
    have := h p (by omega) (by omega)
    by_cases c : f p
    · rw [if_pos c, if_pos (this.mp c)]
    · rw [if_neg c, if_neg (fun q => c (this.mpr q))]
theorem irC_sRt {m : Mem} (hP : m 32 0 ≤ 9) {p q : Int} (hp : 0 ≤ p) (hq : 0 ≤ q) (hne : ¬ q = p) : irC (sRt m 80 p 9) q ↔ irC m q := by
  have e32 : sRt m 80 p 9 32 = m 32 := sRt_32 PostsAt_80
  have eF : gFar (sRt m 80 p 9) 32 = gFar m 32 := by funext a b; exact gFar_cg e32 (sRt_out (by decide) (by decide) (by decide)) a b
  have eT : pT (sRt m 80 p 9) 80 q = pT m 80 q := by
    unfold pT; rw [e32]
    split
    · unfold sRt; rw [if_neg (by omega), if_neg (by omega)]
    · rfl
  have eFl : pF (sRt m 80 p 9) 80 q = pF m 80 q := by
    unfold pF; rw [e32]
    split
    · unfold sRt; rw [if_neg (by omega), if_neg (by omega)]
    · rfl
  have eM : ∀ t : Nat, (t : Int) < m 32 0 → pM (sRt m 80 p 9) 80 q t = pM m 80 q t := fun t ht => by
    unfold pM; rw [e32]
    split
    · unfold sRt; rw [if_neg (by omega), if_neg (by omega)]
    · rfl
  unfold irC
  rw [e32, eT, eFl, eF]
  constructor
  · rintro ⟨a, b⟩; exact ⟨fun t ht => by rw [← eM t (by omega)]; exact a t ht, b⟩
  · rintro ⟨a, b⟩; exact ⟨fun t ht => by rw [eM t (by omega)]; exact a t ht, b⟩
/-- what setting right leaves -/
theorem rgt_ch {s : Int} : ∀ (n : Nat) (p c : Int) (m : Mem), 0 ≤ p → m 32 0 ≤ 9 → (rgt s n p c m).1 = c + cB (fun q => In s q ∧ ¬ irC m q) n p ∧ ∀ a b : Nat, (rgt s n p c m).2 a b = if (a = 82 ∨ a = 83) ∧ (p ≤ b ∧ (b : Int) < p + n) ∧ In s b ∧ ¬ irC m b then 0 else if a = 84 ∧ (p ≤ (b / 9 : Nat) ∧ ((b / 9 : Nat) : Int) < p + n) ∧ In s (b / 9 : Nat) ∧ ¬ irC m (b / 9 : Nat) then gFar m 32 (b / 9 : Nat) (b % 9 : Nat) else m a b := by
  intro n
  induction n with
  | zero =>
    intro p c m h0 hP
    refine ⟨by show c = c + 0; omega, fun a b => ?_⟩
    rw [if_neg (fun q => by omega), if_neg (fun q => by omega)]; rfl
  | succ n ih =>
    intro p c m h0 hP
    rw [rgt_s]
    by_cases k : In s p ∧ ¬ irC m p
    · rw [if_pos k]
      have e32 : sRt m 80 p 9 32 = m 32 := sRt_32 PostsAt_80
      have eF : gFar (sRt m 80 p 9) 32 = gFar m 32 := by funext a b; exact gFar_cg e32 (sRt_out (by decide) (by decide) (by decide)) a b
      obtain ⟨i1, i2⟩ := ih (p + 1) (c + 1) (sRt m 80 p 9) (by omega) (by rw [e32]; exact hP)
      refine ⟨?_, fun a b => ?_⟩
      · rw [i1, cB_s, if_pos k, cB_cg n (p + 1) (fun x a b => and_congr_right (fun _ => not_congr (irC_sRt hP h0 (by omega) (by omega))))]
        omega
      · have eFv : gFar (sRt m 80 p 9) 32 (b / 9 : Nat) (b % 9 : Nat) = gFar m 32 (b / 9 : Nat) (b % 9 : Nat) := by rw [eF]
        rw [i2, eFv]
        by_cases c1 : (a = 82 ∨ a = 83) ∧ (p ≤ b ∧ (b : Int) < p + (n + 1 : Nat)) ∧ In s b ∧ ¬ irC m b
        · rw [if_pos c1]
          by_cases c2 : (b : Int) = p
          · rw [if_neg (by omega), if_neg (by omega)]
            unfold sRt
            rw [if_neg (by omega), if_pos (by omega)]
          · rw [if_pos ⟨c1.1, by omega, c1.2.2.1, fun z => c1.2.2.2 ((irC_sRt hP h0 (by omega) c2).mp z)⟩]
        · rw [if_neg c1]
          rw [if_neg (fun z => c1 ⟨z.1, by omega, z.2.2.1, fun y => z.2.2.2 ((irC_sRt hP h0 (by omega) (by omega)).mpr y)⟩)]
          by_cases c3 : a = 84 ∧ (p ≤ (b / 9 : Nat) ∧ ((b / 9 : Nat) : Int) < p + (n + 1 : Nat)) ∧ In s (b / 9 : Nat) ∧ ¬ irC m (b / 9 : Nat)
          · rw [if_pos c3]
            by_cases c4 : ((b / 9 : Nat) : Int) = p
            · rw [if_neg (by omega)]
              unfold sRt
              rw [if_pos (by omega)]
              congr 1
              · omega
              · omega
            · rw [if_pos ⟨c3.1, by omega, c3.2.2.1, fun z => c3.2.2.2 ((irC_sRt hP h0 (by omega) c4).mp z)⟩]
          · rw [if_neg c3]
            rw [if_neg (fun z => c3 ⟨z.1, by omega, z.2.2.1, fun y => z.2.2.2 ((irC_sRt hP h0 (by omega) (by omega)).mpr y)⟩)]
            unfold sRt
            have d1 : ¬ (a = 80 + 4 ∧ 9 * p ≤ b ∧ (b : Int) < 9 * p + 9) := fun z => c3 ⟨by omega, by omega, by rw [show ((b / 9 : Nat) : Int) = p by omega]; exact k.1, by rw [show ((b / 9 : Nat) : Int) = p by omega]; exact k.2⟩
            have d2 : ¬ ((a = 80 + 2 ∨ a = 80 + 3) ∧ (b : Int) = p) := fun z => c1 ⟨by omega, by omega, by rw [z.2]; exact k.1, by rw [z.2]; exact k.2⟩
            rw [if_neg d1, if_neg d2]
    · rw [if_neg k]
      obtain ⟨i1, i2⟩ := ih (p + 1) c m (by omega) hP
      refine ⟨by rw [i1, cB_s, if_neg k]; omega, fun a b => ?_⟩
      rw [i2]
      have g1 : ∀ x : Int, ((p + 1 ≤ x ∧ x < p + 1 + n) ∧ In s x ∧ ¬ irC m x) ↔ ((p ≤ x ∧ x < p + (n + 1 : Nat)) ∧ In s x ∧ ¬ irC m x) := fun x => by
        constructor
        · rintro ⟨a, b⟩; exact ⟨by omega, b⟩
        · rintro ⟨a, b⟩
          by_cases e : x = p
          · rw [e] at b; exact absurd b k
          · exact ⟨by omega, b⟩
      simp only [g1]
theorem oth_cg {m k : Mem} {p : Int} {t : Nat} (h0 : k 270 p.toNat = m 270 p.toNat) (h1 : k 271 p.toNat = m 271 p.toNat) (h2 : k 269 = m 269) (h3 : k 268 = m 268) (h4 : ∀ u : Nat, u < t → k 272 (9 * p + u).toNat = m 272 (9 * p + u).toNat) : oth k p t ↔ oth m p t := by
  unfold oth
  rw [h0, h1, h2, h3]
  refine not_congr (and_congr_right (fun _ => and_congr_right (fun _ => ?_)))
  constructor
  · intro h u hu; rw [← h4 u hu]; exact h u hu
  · intro h u hu; rw [h4 u hu]; exact h u hu
theorem mrt_ch {s : Int} : ∀ (n : Nat) (p c : Int) (m : Mem), 0 ≤ p → (0 ≤ m 256 0 ∧ m 256 0 ≤ 9) → (mrt s n p c m).1 = c + cB (fun q => hb s q = 1 ∧ oth m q (m 256 0).toNat) n p ∧ ∀ a b : Nat, (mrt s n p c m).2 a b = if (a = 270 ∨ a = 271) ∧ (p ≤ b ∧ (b : Int) < p + n) ∧ hb s b = 1 then 0 else if a = 272 ∧ ((p ≤ (b / 9 : Nat) ∧ ((b / 9 : Nat) : Int) < p + n) ∧ hb s (b / 9 : Nat) = 1) ∧ ((b % 9 : Nat) : Int) < m 256 0 then m 268 b else m a b := by
  intro n
  induction n with
  | zero =>
    intro p c m h0 hP
    refine ⟨by show c = c + 0; omega, fun a b => ?_⟩
    rw [if_neg (fun q => by omega), if_neg (fun q => by omega)]; rfl
  | succ n ih =>
    intro p c m h0 hP
    rw [mrt_s]
    by_cases k : hb s p = 1
    · rw [if_pos k]
      have ec : ∀ x, x ≠ 270 → x ≠ 271 → x ≠ 272 → mRp m p x = m x := fun x a b d => by unfold mRp; rw [mu_ne b, mu_ne a, mst_out d]
      have e256 := ec 256 (by decide) (by decide) (by decide)
      have e268 := ec 268 (by decide) (by decide) (by decide)
      have e269 := ec 269 (by decide) (by decide) (by decide)
      obtain ⟨i1, i2⟩ := ih (p + 1) (c + bi (oth m p (m 256 0).toNat)) (mRp m p) (by omega) (by rw [e256]; exact hP)
      refine ⟨?_, fun a b => ?_⟩
      · rw [i1, cB_s, e256, cB_cg (g := fun q => hb s q = 1 ∧ oth m q (m 256 0).toNat) n (p + 1) (fun x a b => and_congr_right (fun _ => oth_cg ?_ ?_ e269 e268 (fun u hu => ?_)))]
        · by_cases d : oth m p (m 256 0).toNat
          · rw [bi_pos d, if_pos ⟨k, d⟩]; omega
          · rw [bi_neg d, if_neg (fun z => d z.2)]; omega
        · unfold mRp; rw [mu_c (by decide), mu_j (by omega), mst_out (by decide)]
        · unfold mRp; rw [mu_j (by omega), mu_c (by decide), mst_out (by decide)]
        · unfold mRp; rw [mu_c (by decide), mu_c (by decide)]; unfold mst; rw [if_neg (by omega)]
      · rw [i2, e256, e268]
        by_cases c1 : (a = 270 ∨ a = 271) ∧ (p ≤ b ∧ (b : Int) < p + (n + 1 : Nat)) ∧ hb s b = 1
        · rw [if_pos c1]
          by_cases c2 : (b : Int) = p
          · rw [if_neg (by omega), if_neg (by omega)]
            unfold mRp
            rcases c1.1 with rfl | rfl
            · rw [mu_c (by decide), mu_ap, if_pos ⟨rfl, by omega⟩]
            · rw [mu_ap, if_pos ⟨rfl, by omega⟩]
          · rw [if_pos ⟨c1.1, by omega, c1.2.2⟩]
        · rw [if_neg c1, if_neg (fun z => c1 ⟨z.1, by omega, z.2.2⟩)]
          by_cases c3 : a = 272 ∧ ((p ≤ (b / 9 : Nat) ∧ ((b / 9 : Nat) : Int) < p + (n + 1 : Nat)) ∧ hb s (b / 9 : Nat) = 1) ∧ ((b % 9 : Nat) : Int) < m 256 0
          · rw [if_pos c3]
            by_cases c4 : ((b / 9 : Nat) : Int) = p
            · rw [if_neg (by omega), c3.1]
              unfold mRp
              rw [mu_c (by decide), mu_c (by decide)]
              unfold mst
              rw [if_pos (by omega)]
            · rw [if_pos ⟨c3.1, ⟨by omega, c3.2.1.2⟩, c3.2.2⟩]
          · rw [if_neg c3, if_neg (fun z => c3 ⟨z.1, ⟨by omega, z.2.1.2⟩, z.2.2⟩)]
            unfold mRp
            rw [mu_ap, mu_ap]
            have d1 : ¬ (a = 271 ∧ b = p.toNat) := fun z => c1 ⟨Or.inr z.1, by omega, by rw [show (b : Int) = p by omega]; exact k⟩
            have d2 : ¬ (a = 270 ∧ b = p.toNat) := fun z => c1 ⟨Or.inl z.1, by omega, by rw [show (b : Int) = p by omega]; exact k⟩
            have d3 : ¬ (a = 272 ∧ 9 * p ≤ b ∧ (b : Int) < 9 * p + m 256 0) := fun z => c3 ⟨z.1, ⟨by omega, by rw [show ((b / 9 : Nat) : Int) = p by omega]; exact k⟩, by omega⟩
            rw [if_neg d1, if_neg d2]
            unfold mst
            rw [if_neg d3]
    · rw [if_neg k]
      obtain ⟨i1, i2⟩ := ih (p + 1) c m (by omega) hP
      refine ⟨by rw [i1, cB_s, if_neg (fun z => k z.1)]; omega, fun a b => ?_⟩
      rw [i2]
      have g1 : ∀ x : Int, ((p + 1 ≤ x ∧ x < p + 1 + n) ∧ hb s x = 1) ↔ ((p ≤ x ∧ x < p + (n + 1 : Nat)) ∧ hb s x = 1) := fun x => by
        constructor
        · rintro ⟨a, b⟩; exact ⟨by omega, b⟩
        · rintro ⟨a, b⟩
          by_cases e : x = p
          · rw [e] at b; exact absurd b k
          · exact ⟨by omega, b⟩
      simp only [g1]
theorem mrt_MB {s : Int} : ∀ (n : Nat) (p c : Int) (m : Mem), MB m → MB (mrt s n p c m).2 := by
  intro n
  induction n with
  | zero => intro p c m h; exact h
  | succ n ih =>
    intro p c m h
    rw [mrt_s]
    split
    · exact ih _ _ _ (MB_mRp h)
    · exact ih _ _ _ h
theorem irC_oth {μ : Mem} (H : REL μ) {q : Int} (hq : 0 ≤ q ∧ q < μ 32 0) : ¬ irC μ q ↔ oth μ q (μ 32 0).toNat := by
  have hP := H.1.1.1
  obtain ⟨e1, e2, e3, e4, e5, e6⟩ := RM.sd H.gi hq
  unfold oth irC
  refine not_congr ?_
  rw [e2, e3, e5, e6]
  constructor
  · rintro ⟨a, b, c⟩
    refine ⟨b, c, fun u hu hz => hz.2 ?_⟩
    obtain ⟨f1, f2, f3, f4, f5⟩ := RM.arm H.gi hq (t := u) (by omega)
    have ga : ¬ gArm μ 32 q u = -1 := by omega
    have h3 := (H.1.2.2.1 q u hq (by omega)).1
    rw [f5 ga, f2, if_neg (fun z => ga (h3.mpr (Or.inr z)))]
    exact a u hu
  · rintro ⟨b, c, a⟩
    refine ⟨fun u hu => ?_, b, c⟩
    obtain ⟨f1, f2, f3, f4, f5⟩ := RM.arm H.gi hq (t := u) (by omega)
    have h3 := (H.1.2.2.1 q u hq (by omega)).1
    by_cases ga : gArm μ 32 q u = -1
    · have h5 := (H.2.1.2.2 q.toNat u (by omega) (by omega)).2
      have ex : gArm μ 32 q u = μ (32 + 13) (q.toNat * 9 + u) := by unfold gArm; rw [if_pos ⟨hq, by omega⟩]; congr 1; omega
      have ey : pM μ 80 q u = μ (80 + 4) (q.toNat * 9 + u) := by unfold pM; rw [if_pos ⟨hq, by omega⟩]; congr 1; omega
      have ez : gFar μ 32 q u = μ (32 + 12) (q.toNat * 9 + u) := by unfold gFar; rw [if_pos ⟨hq, by omega⟩]; congr 1; omega
      rw [ey, ez]
      exact h5 (by rw [← ex]; exact ga)
    · have := a u hu
      rw [f1, f5 ga, f2, if_neg (fun z => ga (h3.mpr (Or.inr z)))] at this
      by_cases d : pM μ 80 q u = gFar μ 32 q u
      · exact d
      · exact absurd ⟨by omega, d⟩ this
theorem right_cond {μ : Mem} (hP : 0 ≤ μ 32 0 ∧ μ 32 0 ≤ 9) {s : Int} (hs : inR s) : (0 ≤ s ∧ ishr s (μ 32 0) = 0) ↔ (0 ≤ s ∧ s < ishl 1 (μ 32 0)) := by
  refine and_congr_right (fun h0 => ?_)
  obtain ⟨n, rfl, hn⟩ := nn_of (a := s) ⟨h0, hs.2⟩
  obtain ⟨P, eP⟩ : ∃ P : Nat, μ 32 0 = (P : Int) := ⟨(μ 32 0).toNat, by omega⟩
  rw [eP, ishr_nn (by omega) hn]
  have h1 := ishl_1 P (by omega)
  rw [h1]
  have hp : 0 < 2 ^ P := Nat.pow_pos (by decide)
  have e2 : ((2 : Int) ^ P) = ((2 ^ P : Nat) : Int) := by norm_cast
  rw [e2]
  constructor
  · intro h
    have : n / 2 ^ P = 0 := by omega
    have := Nat.div_eq_zero_iff.mp this
    omega
  · intro h
    have : n / 2 ^ P = 0 := Nat.div_eq_of_lt (by omega)
    omega
theorem a_right {μ : Mem} (H : REL μ) {s : Int} (hs : inR s) : Agr mX11_right mX12_right [vi s] μ := by
  have hP := H.1.1.1
  have r0 : μ 256 0 = μ 32 0 := H.2.2.1.1.1
  have hMB := H.2.2.2.2.2.2.2.2.1
  have hSD := H.2.2.2.2.2.2.2.1
  refine ⟨(cRight μ s).1, _, t_right H.ci (fun a b => by have := H.1.far a b; omega) hs, ?_⟩
  rintro w m ⟨rfl, rfl⟩
  have rc := right_cond (μ := μ) hP hs
  by_cases c : 0 ≤ s ∧ ishr s (μ 32 0) = 0
  · obtain ⟨R, hR⟩ : ∃ R, R = rgt s (μ 32 0).toNat 0 0 μ := ⟨_, rfl⟩
    have h1 : cRight μ s = R := by unfold cRight; rw [if_pos c, hR]
    obtain ⟨k1, k2⟩ := rgt_ch (s := s) (μ 32 0).toNat 0 0 μ (by decide) hP.2
    rw [← hR] at k1 k2
    have hm : ∀ k, (k ≠ 82 ∧ k ≠ 83 ∧ k ≠ 84) → R.2 k = μ k := fun k hk => by
      funext b; rw [k2, if_neg (fun z => by omega), if_neg (fun z => by omega)]
    have e256 : R.2 256 = μ 256 := hm 256 (by decide)
    have hB1 : MB R.2 := MB_cg (by rw [e256]) (by rw [e256]) (fun k a b => hm k (by omega)) hMB
    obtain ⟨S, hS⟩ : ∃ S, S = mrt s (μ 32 0).toNat 0 0 R.2 := ⟨_, rfl⟩
    have h2 : mRight R.2 s = S := by unfold mRight; rw [e256, r0, if_pos (rc.mp c), hS]
    obtain ⟨j1, j2⟩ := mrt_ch (s := s) (μ 32 0).toNat 0 0 R.2 (by decide) (by rw [e256]; omega)
    rw [← hS] at j1 j2
    rw [e256, r0, hm 268 (by decide)] at j2
    rw [h1]
    refine ⟨rfl, _, r_right hB1 hs, ?_⟩
    rintro w2 m2 ⟨rfl, rfl⟩
    rw [h2]
    have hin : ∀ x : Nat, (x : Int) < μ 32 0 → (In s x ↔ hb s x = 1) := fun x hx => In_iff (by omega)
    have hir : ∀ x : Nat, (x : Int) < μ 32 0 → (¬ irC μ x ↔ oth μ x (μ 32 0).toNat) := fun x hx => irC_oth H (by omega)
    refine ⟨congrArg vi ?_, ?_⟩
    · have hc := cB_cg (f := fun q => In s q ∧ ¬ irC μ q) (g := fun q => hb s q = 1 ∧ oth R.2 q (R.2 256 0).toNat) (μ 32 0).toNat 0 (fun q a b => and_congr (In_iff (by omega)) ((irC_oth H (by omega)).trans (by
        rw [e256, r0]
        exact (oth_cg (by rw [hm 270 (by decide)]) (by rw [hm 271 (by decide)]) (hm 269 (by decide)) (hm 268 (by decide)) (fun u hu => by rw [hm 272 (by decide)])).symm)))
      rw [k1, j1, hc]
    · have sc : ∀ k, (k ≠ 82 ∧ k ≠ 83 ∧ k ≠ 84 ∧ k ≠ 270 ∧ k ≠ 271 ∧ k ≠ 272) → S.2 k = μ k := fun k hk => by
        rw [← hm k (by omega)]; funext b; rw [j2, if_neg (fun z => by omega), if_neg (fun z => by omega)]
      have sk : ∀ k, (k = 82 ∨ k = 83 ∨ k = 84) → S.2 k = R.2 k := fun k hk => by
        funext b; rw [j2, if_neg (fun z => by omega), if_neg (fun z => by omega)]
      have hla : LAg μ S.2 := fun k a b => sc k (by omega)
      have v82 : ∀ p : Nat, (p : Int) < μ 32 0 → S.2 (80 + 2) p = if hb s p = 1 then 0 else μ (80 + 2) p := fun p hp => by
        rw [sk (80 + 2) (by decide), k2]
        by_cases d : hb s p = 1
        · rw [if_pos d]
          by_cases f : irC μ p
          · rw [if_neg (fun z => z.2.2.2 f), if_neg (fun z => by omega)]
            have := f.2.1; unfold pT at this; rw [if_pos (by omega)] at this; exact this
          · rw [if_pos ⟨Or.inl rfl, by omega, (hin p hp).mpr d, f⟩]
        · rw [if_neg d, if_neg (fun z => d ((hin p hp).mp z.2.2.1)), if_neg (fun z => by omega)]
      have v83 : ∀ p : Nat, (p : Int) < μ 32 0 → S.2 (80 + 3) p = if hb s p = 1 then 0 else μ (80 + 3) p := fun p hp => by
        rw [sk (80 + 3) (by decide), k2]
        by_cases d : hb s p = 1
        · rw [if_pos d]
          by_cases f : irC μ p
          · rw [if_neg (fun z => z.2.2.2 f), if_neg (fun z => by omega)]
            have := f.2.2; unfold pF at this; rw [if_pos (by omega)] at this; exact this
          · rw [if_pos ⟨Or.inr rfl, by omega, (hin p hp).mpr d, f⟩]
        · rw [if_neg d, if_neg (fun z => d ((hin p hp).mp z.2.2.1)), if_neg (fun z => by omega)]
      have v84 : ∀ p t : Nat, (p : Int) < μ 32 0 → (t : Int) < μ 32 0 → S.2 (80 + 4) (p * 9 + t) = if hb s p = 1 then μ (32 + 12) (p * 9 + t) else μ (80 + 4) (p * 9 + t) := fun p t hp ht => by
        have ez : gFar μ 32 p t = μ (32 + 12) (p * 9 + t) := by unfold gFar; rw [if_pos ⟨by omega, by omega⟩]; congr 1
        rw [sk (80 + 4) (by decide), k2, show (p * 9 + t) / 9 = p by omega, show (p * 9 + t) % 9 = t by omega, if_neg (fun z => by omega)]
        by_cases d : hb s p = 1
        · rw [if_pos d]
          by_cases f : irC μ p
          · rw [if_neg (fun z => z.2.2.2 f)]
            have := f.1 t (by omega)
            rw [ez] at this
            unfold pM at this; rw [if_pos ⟨by omega, by omega⟩] at this
            exact this
          · rw [if_pos ⟨rfl, by omega, (hin p hp).mpr d, f⟩, ez]
        · rw [if_neg d, if_neg (fun z => d ((hin p hp).mp z.2.2.1))]
      have w0 : ∀ p : Nat, (p : Int) < μ 32 0 → S.2 270 p = if hb s p = 1 then 0 else μ 270 p := fun p hp => by
        rw [j2, hm 270 (by decide)]
        by_cases d : hb s p = 1
        · rw [if_pos ⟨Or.inl rfl, by omega, d⟩, if_pos d]
        · rw [if_neg (fun z => d z.2.2), if_neg (fun z => by omega), if_neg d]
      have w1 : ∀ p : Nat, (p : Int) < μ 32 0 → S.2 271 p = if hb s p = 1 then 0 else μ 271 p := fun p hp => by
        rw [j2, hm 271 (by decide)]
        by_cases d : hb s p = 1
        · rw [if_pos ⟨Or.inr rfl, by omega, d⟩, if_pos d]
        · rw [if_neg (fun z => d z.2.2), if_neg (fun z => by omega), if_neg d]
      have w2 : ∀ p t : Nat, (p : Int) < μ 32 0 → (t : Int) < μ 32 0 → S.2 272 (p * 9 + t) = if hb s p = 1 then μ 268 (p * 9 + t) else μ 272 (p * 9 + t) := fun p t hp ht => by
        rw [j2, hm 272 (by decide), show (p * 9 + t) / 9 = p by omega, show (p * 9 + t) % 9 = t by omega, if_neg (fun z => by omega)]
        by_cases d : hb s p = 1
        · rw [if_pos ⟨rfl, ⟨by omega, d⟩, ht⟩, if_pos d]
        · rw [if_neg (fun z => d z.2.1.2), if_neg d]
      have hPOK : POK S.2 80 := by
        refine ⟨fun p => ?_, fun p => ?_, fun p => ?_⟩
        · rw [sk (80 + 2) (by decide), k2]; split
          · decide
          · rw [if_neg (fun z => by omega)]; exact H.2.1.1.1 p
        · rw [sk (80 + 3) (by decide), k2]; split
          · decide
          · rw [if_neg (fun z => by omega)]; exact H.2.1.1.2.1 p
        · rw [sk (80 + 4) (by decide), k2, if_neg (fun z => by omega)]; split
          · have := H.1.far (p / 9 : Nat) (p % 9 : Nat); omega
          · exact H.2.1.1.2.2 p
      refine REL_posts H (fun k hk => sc k (by omega)) (fun j _ => by rw [sc 256 (by decide)]) ⟨hPOK, fun p hp hq => ?_, fun p t hp ht => ?_⟩ (fun p hp => ?_) (fun p t hp ht hx => ?_) (by rw [hS]; exact mrt_MB _ _ _ _ hB1) (by unfold SD; rw [sc 256 (by decide), sc 176 (by decide)]; exact hSD)
      · rw [sc 32 (by decide)] at hp
        rw [sc (32 + 10) (by decide)] at hq ⊢
        rw [v82 p hp]; split
        · exact hq
        · exact H.2.1.2.1 p hp hq
      · rw [sc 32 (by decide)] at hp ht
        have hf := H.1.far p t
        have ez : gFar μ 32 p t = μ (32 + 12) (p * 9 + t) := by unfold gFar; rw [if_pos ⟨by omega, by omega⟩]; congr 1
        have ex : gArm μ 32 p t = μ (32 + 13) (p * 9 + t) := by unfold gArm; rw [if_pos ⟨by omega, by omega⟩]; congr 1
        have h3 := (H.1.2.2.1 p t (by omega) (by omega)).1
        rw [sc (32 + 12) (by decide), sc (32 + 13) (by decide), v84 p t hp ht]
        by_cases d : hb s p = 1
        · rw [if_pos d]
          refine ⟨fun z => ?_, fun _ => rfl⟩
          have : ¬ gFar μ 32 p t = -1 := fun y => z (by rw [← ex]; exact h3.mpr (Or.inr y))
          omega
        · rw [if_neg d]; exact H.2.1.2.2 p t hp ht
      · rw [w0 p hp, w1 p hp, v82 p hp, v83 p hp]
        have := H.2.2.1.2.2.2.2.2.1 p hp
        by_cases d : hb s p = 1
        · simp only [if_pos d, and_self]
        · simp only [if_neg d]; exact this
      · rw [w2 p t hp ht, v84 p t hp ht]
        by_cases d : hb s p = 1
        · rw [if_pos d, if_pos d]
          have := (H.2.2.1.2.2.2.2.1 p t hp ht).2
          have ez : gFar μ 32 p t = μ (32 + 12) (p * 9 + t) := by unfold gFar; rw [if_pos ⟨by omega, by omega⟩]; congr 1
          have ex : gArm μ 32 p t = μ (32 + 13) (p * 9 + t) := by unfold gArm; rw [if_pos ⟨by omega, by omega⟩]; congr 1
          have h3 := (H.1.2.2.1 p t (by omega) (by omega)).1
          rw [this, if_neg (fun y => hx (by rw [← ex]; exact h3.mpr (Or.inr (by rw [ez]; exact y))))]
        · rw [if_neg d, if_neg d]; exact H.2.2.1.2.2.2.2.2.2 p t hp ht hx
  · have h1 : cRight μ s = (-1000000001, μ) := by unfold cRight; rw [if_neg c]
    have h2 : mRight μ s = (-1000000001, μ) := by unfold mRight; rw [r0, if_neg (fun z => c (rc.mpr z))]
    rw [h1]
    refine ⟨rfl, _, r_right hMB hs, ?_⟩
    rintro w2 m2 ⟨rfl, rfl⟩
    rw [h2]; exact ⟨rfl, H⟩

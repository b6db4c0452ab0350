/-- the set of the p from p0 on, n of them, for which f holds, put to acc -/
def sb (f : Int → Prop) [∀ x, Decidable (f x)] : Nat → Int → Int → Int
  | 0, _, acc => acc
  | n + 1, p, acc => sb f n (p + 1) (if f p then iorr acc (ishl 1 p) else acc)
theorem sb_s (f : Int → Prop) [∀ x, Decidable (f x)] (n : Nat) (p acc : Int) : sb f (n + 1) p acc = sb f n (p + 1) (if f p then iorr acc (ishl 1 p) else acc) := rfl
theorem sb_0 (f : Int → Prop) [∀ x, Decidable (f x)] (p acc : Int) : sb f 0 p acc = acc := rfl

set_option maxRecDepth 20000 in
theorem l_turnedSet {μ : Mem} {o : Nat} (ho : PostsAt o) (hL : LOK μ 32) (hO : POK μ o) {X : ZX} {R : Int} (hX : isM X (fun w m => w = vi R ∧ m = μ)) : ∀ (n : Nat) (p acc : Int), (p + n = μ 32 0) → (0 ≤ p) → (sb (fun p => ¬ pT μ o p = 0) n p acc = R) → V X mX6_turnedSet 4 [vr o, vi acc, vi p] [] μ := by
  intro n
  induction n with
  | zero =>
    intro p acc h1 h2 hR
    obtain ⟨hL0, -⟩ := id hL
    have hz := pT_rg hO p
    refine V_iloadn (pc := 4) dX6_turnedSet_4 rfl ?_
    refine V_aloadn (pc := 5) dX6_turnedSet_5 rfl ?_
    refine V_getr (pc := 6) dX6_turnedSet_6 fX6_21 (PostsAt_k ho) (PostsAt_z0 ho) ?_
    refine V_cv0 (pc := 9) dX6_turnedSet_9 kX6_31 zk_32 (by decide) (Nat.le_of_ble_eq_true rfl) (s_places LandAt_32) rfl ?_
    refine V_icmp_ge (pc := 12) (tgt := 35) dX6_turnedSet_12 (by decide) (by omega) (by omega) (fun h12 => ?_) (fun h12 => ?_)
    · refine V_iloadn (pc := 35) dX6_turnedSet_35 rfl ?_
      refine V_iret hX dX6_turnedSet_36 rfl ?_
      exact ⟨congrArg vi hR, rfl⟩
    · exfalso; omega
  | succ n ih =>
    intro p acc h1 h2 hR
    obtain ⟨hL0, -⟩ := id hL
    have hz := pT_rg hO p
    refine V_iloadn (pc := 4) dX6_turnedSet_4 rfl ?_
    refine V_aloadn (pc := 5) dX6_turnedSet_5 rfl ?_
    refine V_getr (pc := 6) dX6_turnedSet_6 fX6_21 (PostsAt_k ho) (PostsAt_z0 ho) ?_
    refine V_cv0 (pc := 9) dX6_turnedSet_9 kX6_31 zk_32 (by decide) (Nat.le_of_ble_eq_true rfl) (s_places LandAt_32) rfl ?_
    refine V_icmp_ge (pc := 12) (tgt := 35) dX6_turnedSet_12 (by decide) (by omega) (by omega) (fun h12 => ?_) (fun h12 => ?_)
    · exfalso; omega
    · refine V_aloadn (pc := 15) dX6_turnedSet_15 rfl ?_
      refine V_iloadn (pc := 16) dX6_turnedSet_16 rfl ?_
      refine V_cv1 (pc := 17) dX6_turnedSet_17 kX6_55 (PostsAt_k ho) (by decide) (Nat.le_of_ble_eq_true rfl) (s_turnOf ho hL hO (by omega)) rfl ?_
      refine V_if_eq (pc := 20) (tgt := 29) dX6_turnedSet_20 (by decide) (by omega) (fun h20 => ?_) (fun h20 => ?_)
      · refine V_iinc_2 (pc := 29) dX6_turnedSet_29 (by decide) rfl ?_
        refine V_goto (pc := 32) (tgt := 4) dX6_turnedSet_32 (by decide) ?_
        exact ih _ _ (by omega) (by omega) (by rw [← hR, sb_s]; first | rw [if_pos (by omega)] | rw [if_neg (by omega)])
      · refine V_iloadn (pc := 23) dX6_turnedSet_23 rfl ?_
        refine V_iconst (pc := 24) dX6_turnedSet_24 ?_
        refine V_iloadn (pc := 25) dX6_turnedSet_25 rfl ?_
        refine V_ishl (pc := 26) dX6_turnedSet_26 ?_
        refine V_ior (pc := 27) dX6_turnedSet_27 ?_
        refine V_istore_1 (pc := 28) dX6_turnedSet_28 (by decide) rfl ?_
        refine V_iinc_2 (pc := 29) dX6_turnedSet_29 (by decide) rfl ?_
        refine V_goto (pc := 32) (tgt := 4) dX6_turnedSet_32 (by decide) ?_
        exact ih _ _ (by omega) (by omega) (by rw [← hR, sb_s]; first | rw [if_pos (by omega)] | rw [if_neg (by omega)])

set_option maxRecDepth 20000 in
theorem s_turnedSet {μ : Mem} {o : Nat} (ho : PostsAt o) (hL : LOK μ 32) (hO : POK μ o) : SP mX6_turnedSet [vr o] μ (fun w m => w = vi (sb (fun p => ¬ pT μ o p = 0) (μ 32 0).toNat 0 0) ∧ m = μ) := by
  refine SP_intro (ls := [vr o, un, un]) (by decide +kernel) rfl rfl (Nat.le_of_ble_eq_true rfl) rfl (fun X hX => ?_)
  obtain ⟨hL0, -⟩ := id hL
  refine V_iconst (pc := 0) dX6_turnedSet_0 ?_
  refine V_istore_1 (pc := 1) dX6_turnedSet_1 (by decide) rfl ?_
  refine V_iconst (pc := 2) dX6_turnedSet_2 ?_
  refine V_istore_2 (pc := 3) dX6_turnedSet_3 (by decide) rfl ?_
  exact l_turnedSet ho hL hO hX (μ 32 0).toNat 0 0 (by omega) (by omega) rfl

set_option maxRecDepth 20000 in
theorem l_astraySet {μ : Mem} {o : Nat} (ho : PostsAt o) (hL : LOK μ 32) (hO : POK μ o) {X : ZX} {R : Int} (hX : isM X (fun w m => w = vi R ∧ m = μ)) : ∀ (n : Nat) (p acc : Int), (p + n = μ 32 0) → (0 ≤ p) → (sb (fun p => ¬ pT μ o p = 0 ∨ ¬ pF μ o p = 0) n p acc = R) → V X mX6_astraySet 4 [vr o, vi acc, vi p] [] μ := by
  intro n
  induction n with
  | zero =>
    intro p acc h1 h2 hR
    obtain ⟨hL0, -⟩ := id hL
    have hz := pT_rg hO p
    refine V_iloadn (pc := 4) dX6_astraySet_4 rfl ?_
    refine V_aloadn (pc := 5) dX6_astraySet_5 rfl ?_
    refine V_getr (pc := 6) dX6_astraySet_6 fX6_21 (PostsAt_k ho) (PostsAt_z0 ho) ?_
    refine V_cv0 (pc := 9) dX6_astraySet_9 kX6_31 zk_32 (by decide) (Nat.le_of_ble_eq_true rfl) (s_places LandAt_32) rfl ?_
    refine V_icmp_ge (pc := 12) (tgt := 35) dX6_astraySet_12 (by decide) (by omega) (by omega) (fun h12 => ?_) (fun h12 => ?_)
    · refine V_iloadn (pc := 35) dX6_astraySet_35 rfl ?_
      refine V_iret hX dX6_astraySet_36 rfl ?_
      exact ⟨congrArg vi hR, rfl⟩
    · exfalso; omega
  | succ n ih =>
    intro p acc h1 h2 hR
    obtain ⟨hL0, -⟩ := id hL
    have hz := pT_rg hO p
    refine V_iloadn (pc := 4) dX6_astraySet_4 rfl ?_
    refine V_aloadn (pc := 5) dX6_astraySet_5 rfl ?_
    refine V_getr (pc := 6) dX6_astraySet_6 fX6_21 (PostsAt_k ho) (PostsAt_z0 ho) ?_
    refine V_cv0 (pc := 9) dX6_astraySet_9 kX6_31 zk_32 (by decide) (Nat.le_of_ble_eq_true rfl) (s_places LandAt_32) rfl ?_
    refine V_icmp_ge (pc := 12) (tgt := 35) dX6_astraySet_12 (by decide) (by omega) (by omega) (fun h12 => ?_) (fun h12 => ?_)
    · exfalso; omega
    · refine V_aloadn (pc := 15) dX6_astraySet_15 rfl ?_
      refine V_iloadn (pc := 16) dX6_astraySet_16 rfl ?_
      refine V_cv1 (pc := 17) dX6_astraySet_17 kX6_52 (PostsAt_k ho) (by decide) (Nat.le_of_ble_eq_true rfl) (s_leadsAstray ho hL hO (by omega)) rfl ?_
      refine V_ifeq_b (pc := 20) (tgt := 29) dX6_astraySet_20 (by decide) (fun h20 => ?_) (fun h20 => ?_)
      · refine V_iinc_2 (pc := 29) dX6_astraySet_29 (by decide) rfl ?_
        refine V_goto (pc := 32) (tgt := 4) dX6_astraySet_32 (by decide) ?_
        exact ih _ _ (by omega) (by omega) (by rw [← hR, sb_s]; first | rw [if_pos (by omega)] | rw [if_neg (by omega)])
      · refine V_iloadn (pc := 23) dX6_astraySet_23 rfl ?_
        refine V_iconst (pc := 24) dX6_astraySet_24 ?_
        refine V_iloadn (pc := 25) dX6_astraySet_25 rfl ?_
        refine V_ishl (pc := 26) dX6_astraySet_26 ?_
        refine V_ior (pc := 27) dX6_astraySet_27 ?_
        refine V_istore_1 (pc := 28) dX6_astraySet_28 (by decide) rfl ?_
        refine V_iinc_2 (pc := 29) dX6_astraySet_29 (by decide) rfl ?_
        refine V_goto (pc := 32) (tgt := 4) dX6_astraySet_32 (by decide) ?_
        exact ih _ _ (by omega) (by omega) (by rw [← hR, sb_s]; first | rw [if_pos (by omega)] | rw [if_neg (by omega)])

set_option maxRecDepth 20000 in
theorem s_astraySet {μ : Mem} {o : Nat} (ho : PostsAt o) (hL : LOK μ 32) (hO : POK μ o) : SP mX6_astraySet [vr o] μ (fun w m => w = vi (sb (fun p => ¬ pT μ o p = 0 ∨ ¬ pF μ o p = 0) (μ 32 0).toNat 0 0) ∧ m = μ) := by
  refine SP_intro (ls := [vr o, un, un]) (by decide +kernel) rfl rfl (Nat.le_of_ble_eq_true rfl) rfl (fun X hX => ?_)
  obtain ⟨hL0, -⟩ := id hL
  refine V_iconst (pc := 0) dX6_astraySet_0 ?_
  refine V_istore_1 (pc := 1) dX6_astraySet_1 (by decide) rfl ?_
  refine V_iconst (pc := 2) dX6_astraySet_2 ?_
  refine V_istore_2 (pc := 3) dX6_astraySet_3 (by decide) rfl ?_
  exact l_astraySet ho hL hO hX (μ 32 0).toNat 0 0 (by omega) (by omega) rfl

set_option maxRecDepth 20000 in
theorem l_isRight {μ : Mem} {o : Nat} (ho : PostsAt o) (hL : LOK μ 32) (hO : POK μ o) {p : Int} (hp : inR p) {X : ZX} (hX : isM X (fun w m => w = vi (bi ((∀ t : Nat, t < (μ 32 0).toNat → pM μ o p t = gFar μ 32 p t) ∧ pT μ o p = 0 ∧ pF μ o p = 0)) ∧ m = μ)) : ∀ (n : Nat) (t : Int), (t + n = μ 32 0) → (0 ≤ t) → (∀ u : Nat, u < t.toNat → pM μ o p u = gFar μ 32 p u) → V X mX6_isRight 2 [vr o, vi p, vi t] [] μ := by
  intro n
  induction n with
  | zero =>
    intro t h1 h2 h3
    obtain ⟨hL0, -⟩ := id hL
    have hz := pM_rg hO p t
    have hy := gFar_rg hL p t
    refine V_iloadn (pc := 2) dX6_isRight_2 rfl ?_
    refine V_aloadn (pc := 3) dX6_isRight_3 rfl ?_
    refine V_getr (pc := 4) dX6_isRight_4 fX6_21 (PostsAt_k ho) (PostsAt_z0 ho) ?_
    refine V_cv0 (pc := 7) dX6_isRight_7 kX6_31 zk_32 (by decide) (Nat.le_of_ble_eq_true rfl) (s_places LandAt_32) rfl ?_
    refine V_icmp_ge (pc := 10) (tgt := 39) dX6_isRight_10 (by decide) (by omega) (by omega) (fun h10 => ?_) (fun h10 => ?_)
    · refine V_aloadn (pc := 39) dX6_isRight_39 rfl ?_
      refine V_iloadn (pc := 40) dX6_isRight_40 rfl ?_
      refine V_cv1 (pc := 41) dX6_isRight_41 kX6_52 (PostsAt_k ho) (by decide) (Nat.le_of_ble_eq_true rfl) (s_leadsAstray ho hL hO hp) rfl ?_
      refine V_ifne_b (pc := 44) (tgt := 51) dX6_isRight_44 (by decide) (fun h44 => ?_) (fun h44 => ?_)
      · refine V_iconst (pc := 51) dX6_isRight_51 ?_
        refine V_zret hX dX6_isRight_52 rfl (by first | exact Or.inl rfl | exact Or.inr rfl | exact bi_01 _) ?_
        have h4 : ∀ u : Nat, u < (μ 32 0).toNat → pM μ o p u = gFar μ 32 p u := fun u hu => h3 u (by omega)
        exact ⟨congrArg vi (by first | (rw [bi_pos ⟨h4, by omega, by omega⟩]; done) | (rw [bi_neg (fun h => by omega)])), rfl⟩
      · refine V_iconst (pc := 47) dX6_isRight_47 ?_
        refine V_goto (pc := 48) (tgt := 52) dX6_isRight_48 (by decide) ?_
        refine V_zret hX dX6_isRight_52 rfl (by first | exact Or.inl rfl | exact Or.inr rfl | exact bi_01 _) ?_
        have h4 : ∀ u : Nat, u < (μ 32 0).toNat → pM μ o p u = gFar μ 32 p u := fun u hu => h3 u (by omega)
        exact ⟨congrArg vi (by first | (rw [bi_pos ⟨h4, by omega, by omega⟩]; done) | (rw [bi_neg (fun h => by omega)])), rfl⟩
    · exfalso; omega
  | succ n ih =>
    intro t h1 h2 h3
    obtain ⟨hL0, -⟩ := id hL
    have hz := pM_rg hO p t
    have hy := gFar_rg hL p t
    refine V_iloadn (pc := 2) dX6_isRight_2 rfl ?_
    refine V_aloadn (pc := 3) dX6_isRight_3 rfl ?_
    refine V_getr (pc := 4) dX6_isRight_4 fX6_21 (PostsAt_k ho) (PostsAt_z0 ho) ?_
    refine V_cv0 (pc := 7) dX6_isRight_7 kX6_31 zk_32 (by decide) (Nat.le_of_ble_eq_true rfl) (s_places LandAt_32) rfl ?_
    refine V_icmp_ge (pc := 10) (tgt := 39) dX6_isRight_10 (by decide) (by omega) (by omega) (fun h10 => ?_) (fun h10 => ?_)
    · exfalso; omega
    · refine V_aloadn (pc := 13) dX6_isRight_13 rfl ?_
      refine V_iloadn (pc := 14) dX6_isRight_14 rfl ?_
      refine V_iloadn (pc := 15) dX6_isRight_15 rfl ?_
      refine V_cv2 (pc := 16) dX6_isRight_16 kX6_49 (PostsAt_k ho) (by decide) (Nat.le_of_ble_eq_true rfl) (s_paintedMiles ho hL hO hp (by omega)) rfl ?_
      refine V_aloadn (pc := 19) dX6_isRight_19 rfl ?_
      refine V_getr (pc := 20) dX6_isRight_20 fX6_21 (PostsAt_k ho) (PostsAt_z0 ho) ?_
      refine V_iloadn (pc := 23) dX6_isRight_23 rfl ?_
      refine V_iloadn (pc := 24) dX6_isRight_24 rfl ?_
      refine V_cv2 (pc := 25) dX6_isRight_25 kX6_45 zk_32 (by decide) (Nat.le_of_ble_eq_true rfl) (s_fewestMiles LandAt_32 hL hp (by omega)) rfl ?_
      refine V_icmp_eq (pc := 28) (tgt := 33) dX6_isRight_28 (by decide) (by omega) (by omega) (fun h28 => ?_) (fun h28 => ?_)
      · refine V_iinc_2 (pc := 33) dX6_isRight_33 (by decide) rfl ?_
        refine V_goto (pc := 36) (tgt := 2) dX6_isRight_36 (by decide) ?_
        exact ih _ (by omega) (by omega) (fun u hu => by
            by_cases e : u < t.toNat
            · exact h3 u e
            · have e2 : (u : Int) = t := by omega
              rw [e2]; omega)
      · refine V_iconst (pc := 31) dX6_isRight_31 ?_
        refine V_zret hX dX6_isRight_32 rfl (by first | exact Or.inl rfl | exact Or.inr rfl | exact bi_01 _) ?_
        exact ⟨congrArg vi (by rw [bi_neg (fun h => by have h5 := h.1 t.toNat (by omega); rw [show ((t.toNat : Nat) : Int) = t by omega] at h5; omega)]), rfl⟩

set_option maxRecDepth 20000 in
theorem s_isRight {μ : Mem} {o : Nat} (ho : PostsAt o) (hL : LOK μ 32) (hO : POK μ o) {p : Int} (hp : inR p) : SP mX6_isRight [vr o, vi p] μ (fun w m => w = vi (bi ((∀ t : Nat, t < (μ 32 0).toNat → pM μ o p t = gFar μ 32 p t) ∧ pT μ o p = 0 ∧ pF μ o p = 0)) ∧ m = μ) := by
  refine SP_intro (ls := [vr o, vi p, un]) (by decide +kernel) rfl rfl (Nat.le_of_ble_eq_true rfl) rfl (fun X hX => ?_)
  obtain ⟨hL0, -⟩ := id hL
  refine V_iconst (pc := 0) dX6_isRight_0 ?_
  refine V_istore_2 (pc := 1) dX6_isRight_1 (by decide) rfl ?_
  exact l_isRight ho hL hO hp hX (μ 32 0).toNat 0 (by omega) (by omega) (fun u hu => by omega)

/-- the memory behind t of the nine tellings of setRight -/
def sRt (μ : Mem) (o : Nat) (p : Int) (t : Int) : Mem := fun a b => if a = o + 4 ∧ 9 * p ≤ b ∧ (b : Int) < 9 * p + t then gFar μ 32 p (b - 9 * p) else if (a = o + 2 ∨ a = o + 3) ∧ (b : Int) = p then 0 else μ a b
theorem sRt_out {μ : Mem} {o : Nat} {p t : Int} {a : Nat} (h1 : a ≠ o + 2) (h2 : a ≠ o + 3) (h3 : a ≠ o + 4) : sRt μ o p t a = μ a := by
  funext b; simp [sRt, h1, h2, h3]
theorem gFar_cg {μ ν : Mem} {o : Nat} (h1 : ν o = μ o) (h2 : ν (o + 12) = μ (o + 12)) (a b : Int) : gFar ν o a b = gFar μ o a b := by unfold gFar; rw [h1, h2]
theorem sRt_0 {μ : Mem} {o : Nat} {p : Int} (hp : 0 ≤ p) : mu (mu μ (o + 2) p.toNat 0) (o + 3) p.toNat 0 = sRt μ o p 0 := by
  funext a b
  simp only [mu, sRt]
  rw [if_neg (show ¬ (a = o + 4 ∧ 9 * p ≤ b ∧ (b : Int) < 9 * p + 0) by omega)]
  by_cases h3 : a = o + 3 ∧ b = p.toNat
  · rw [if_pos h3, if_pos (show (a = o + 2 ∨ a = o + 3) ∧ (b : Int) = p by omega)]
  · rw [if_neg h3]
    by_cases h2 : a = o + 2 ∧ b = p.toNat
    · rw [if_pos h2, if_pos (show (a = o + 2 ∨ a = o + 3) ∧ (b : Int) = p by omega)]
    · rw [if_neg h2, if_neg (show ¬ ((a = o + 2 ∨ a = o + 3) ∧ (b : Int) = p) by omega)]
theorem sRt_s {μ : Mem} {o : Nat} {p t : Int} (hp : 0 ≤ p) (ht : 0 ≤ t) : mu (sRt μ o p t) (o + 4) (p * 9 + t).toNat (gFar μ 32 p t) = sRt μ o p (t + 1) := by
  funext a b
  simp only [mu, sRt]
  by_cases h : a = o + 4 ∧ b = (p * 9 + t).toNat
  · rw [if_pos h, if_pos (show a = o + 4 ∧ 9 * p ≤ b ∧ (b : Int) < 9 * p + (t + 1) by omega)]
    congr 1; omega
  · rw [if_neg h]
    by_cases h2 : a = o + 4 ∧ 9 * p ≤ b ∧ (b : Int) < 9 * p + t
    · rw [if_pos h2, if_pos (show a = o + 4 ∧ 9 * p ≤ b ∧ (b : Int) < 9 * p + (t + 1) by omega)]
    · rw [if_neg h2, if_neg (show ¬ (a = o + 4 ∧ 9 * p ≤ b ∧ (b : Int) < 9 * p + (t + 1)) by omega)]
theorem LOK_cg {μ ν : Mem} {o : Nat} (h : LOK μ o) (h0 : ν o = μ o) (hk : ∀ k, 4 ≤ k → k ≤ 13 → ν (o + k) = μ (o + k)) : LOK ν o := by
  obtain ⟨a, b, c, d, e⟩ := h
  refine ⟨by rw [h0]; exact a, by rw [h0]; exact b, by rw [h0]; exact c, fun p => ?_, fun k j h1 h2 => ?_⟩
  · rw [hk 10 (by decide) (by decide)]; exact d p
  · rw [hk k h1 h2]; exact e k j h1 h2
theorem PostsAt.ge {o : Nat} (h : PostsAt o) : 80 ≤ o := by rcases h with rfl | rfl | rfl <;> decide
theorem LOK_sRt {μ : Mem} {o : Nat} {p t : Int} (ho : PostsAt o) (h : LOK μ 32) : LOK (sRt μ o p t) 32 := by
  have := ho.ge
  exact LOK_cg h (sRt_out (by omega) (by omega) (by omega)) (fun k h1 h2 => sRt_out (by omega) (by omega) (by omega))

set_option maxRecDepth 20000 in
theorem l_setRight {μ : Mem} {o : Nat} (ho : PostsAt o) (hL : LOK μ 32) {p : Int} (hp : 0 ≤ p ∧ p < μ 32 0) {X : ZX} (hX : isM X (fun w m => w = un ∧ m = sRt μ o p 9)) : ∀ (n : Nat) (t : Int), (t + n = 9) → (0 ≤ t) → V X mX6_setRight 27 [vr o, vi p, vi t] [] (sRt μ o p t) := by
  intro n
  induction n with
  | zero =>
    intro t h1 h2
    have hg := ho.ge
    obtain ⟨hL0, -⟩ := id hL
    refine V_iloadn (pc := 27) dX6_setRight_27 rfl ?_
    refine V_bipush (pc := 28) dX6_setRight_28 (by decide +kernel) ?_
    refine V_icmp_ge (pc := 30) (tgt := 59) dX6_setRight_30 (by decide) (by omega) (by decide) (fun h30 => ?_) (fun h30 => ?_)
    · refine V_vret (x := 0) hX dX6_setRight_59 rfl ?_
      exact ⟨rfl, by rw [show t = 9 by omega]⟩
    · exfalso; omega
  | succ n ih =>
    intro t h1 h2
    have hg := ho.ge
    obtain ⟨hL0, -⟩ := id hL
    refine V_iloadn (pc := 27) dX6_setRight_27 rfl ?_
    refine V_bipush (pc := 28) dX6_setRight_28 (by decide +kernel) ?_
    refine V_icmp_ge (pc := 30) (tgt := 59) dX6_setRight_30 (by decide) (by omega) (by decide) (fun h30 => ?_) (fun h30 => ?_)
    · exfalso; omega
    · refine V_aloadn (pc := 33) dX6_setRight_33 rfl ?_
      refine V_getr (pc := 34) dX6_setRight_34 fX6_18 (PostsAt_k ho) (PostsAt_z3 ho) ?_
      refine V_iloadn (pc := 37) dX6_setRight_37 rfl ?_
      refine V_bipush (pc := 38) dX6_setRight_38 (by decide +kernel) ?_
      refine V_imul (pc := 40) dX6_setRight_40 ?_
      refine V_iloadn (pc := 41) dX6_setRight_41 rfl ?_
      refine V_iadd (pc := 42) dX6_setRight_42 ?_
      refine V_aloadn (pc := 43) dX6_setRight_43 rfl ?_
      refine V_getr (pc := 44) dX6_setRight_44 fX6_21 (PostsAt_k ho) (PostsAt_z0 ho) ?_
      refine V_iloadn (pc := 47) dX6_setRight_47 rfl ?_
      refine V_iloadn (pc := 48) dX6_setRight_48 rfl ?_
      refine V_cv2 (pc := 49) dX6_setRight_49 kX6_45 zk_32 (by decide) (Nat.le_of_ble_eq_true rfl) (s_fewestMiles LandAt_32 (LOK_sRt ho hL) (by omega) (by omega)) rfl ?_
      rw [gFar_cg (sRt_out (by omega) (by omega) (by omega)) (sRt_out (by omega) (by omega) (by omega))]
      refine V_iast (pc := 52) dX6_setRight_52 (PostsAt_a3 ho) (by omega) (by omega) (by decide) ?_
      rw [sRt_s (by omega) (by omega)]
      refine V_iinc_2 (pc := 53) dX6_setRight_53 (by decide) rfl ?_
      refine V_goto (pc := 56) (tgt := 27) dX6_setRight_56 (by decide) ?_
      exact ih _ (by omega) (by omega)

set_option maxRecDepth 20000 in
theorem s_setRight {μ : Mem} {o : Nat} (ho : PostsAt o) (hL : LOK μ 32) {p : Int} (hp : 0 ≤ p ∧ p < μ 32 0) : SP mX6_setRight [vr o, vi p] μ (fun w m => w = un ∧ m = sRt μ o p 9) := by
  refine SP_intro (ls := [vr o, vi p, un]) (by decide +kernel) rfl rfl (Nat.le_of_ble_eq_true rfl) rfl (fun X hX => ?_)
  have hg := ho.ge
  obtain ⟨hL0, -⟩ := id hL
  refine V_aloadn (pc := 0) dX6_setRight_0 rfl ?_
  refine V_getr (pc := 1) dX6_setRight_1 fX6_21 (PostsAt_k ho) (PostsAt_z0 ho) ?_
  refine V_iloadn (pc := 4) dX6_setRight_4 rfl ?_
  refine V_cv1 (pc := 5) dX6_setRight_5 kX6_41 zk_32 (by decide) (Nat.le_of_ble_eq_true rfl) (s_hasPlace LandAt_32 hL (by omega)) rfl ?_
  refine V_ifeq_b (pc := 8) (tgt := 59) dX6_setRight_8 (by decide) (fun h8 => ?_) (fun h8 => ?_)
  · exfalso; omega
  · refine V_aloadn (pc := 11) dX6_setRight_11 rfl ?_
    refine V_getr (pc := 12) dX6_setRight_12 fX6_9 (PostsAt_k ho) (PostsAt_z1 ho) ?_
    refine V_iloadn (pc := 15) dX6_setRight_15 rfl ?_
    refine V_iconst (pc := 16) dX6_setRight_16 ?_
    refine V_iast (pc := 17) dX6_setRight_17 (PostsAt_a1 ho) (by omega) (by omega) (by decide) ?_
    refine V_aloadn (pc := 18) dX6_setRight_18 rfl ?_
    refine V_getr (pc := 19) dX6_setRight_19 fX6_15 (PostsAt_k ho) (PostsAt_z2 ho) ?_
    refine V_iloadn (pc := 22) dX6_setRight_22 rfl ?_
    refine V_iconst (pc := 23) dX6_setRight_23 ?_
    refine V_iast (pc := 24) dX6_setRight_24 (PostsAt_a2 ho) (by omega) (by omega) (by decide) ?_
    refine V_iconst (pc := 25) dX6_setRight_25 ?_
    refine V_istore_2 (pc := 26) dX6_setRight_26 (by decide) rfl ?_
    rw [sRt_0 (by omega)]
    exact l_setRight ho hL hp hX 9 0 (by omega) (by omega)


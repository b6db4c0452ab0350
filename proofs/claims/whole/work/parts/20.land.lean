/-! Land: what its getters answer (o: the ground, 32, or the draft, 48) -/
abbrev gP (μ : Mem) (o : Nat) (p : Int) : Prop := 0 ≤ p ∧ p < μ o 0
abbrev gS (μ : Mem) (o : Nat) (p i : Int) : Prop := (0 ≤ p ∧ p < μ o 0) ∧ 0 ≤ i ∧ i < μ (o + 10) p.toNat
def gSd (μ : Mem) (o : Nat) (p : Int) : Int := if 0 ≤ p ∧ p < μ o 0 then μ (o + 10) p.toNat else 0
def gOne (μ : Mem) (o : Nat) (r : Int) : Int := if 0 ≤ r ∧ r < μ o 1 then μ (o + 4) r.toNat else -1
def gTwo (μ : Mem) (o : Nat) (r : Int) : Int := if 0 ≤ r ∧ r < μ o 1 then μ (o + 5) r.toNat else -1
def gLn (μ : Mem) (o : Nat) (r : Int) : Int := if 0 ≤ r ∧ r < μ o 1 then μ (o + 6) r.toNat else 0
def gFr (μ : Mem) (o : Nat) (g : Int) : Int := if 0 ≤ g ∧ g < μ o 2 then μ (o + 7) g.toNat else -1
def gTo (μ : Mem) (o : Nat) (g : Int) : Int := if 0 ≤ g ∧ g < μ o 2 then μ (o + 8) g.toNat else -1
def gHd (μ : Mem) (o : Nat) (g : Int) : Int := if 0 ≤ g ∧ g < μ o 2 then μ (o + 9) g.toNat else 0
def gRd (μ : Mem) (o : Nat) (p i : Int) : Int := if (0 ≤ p ∧ p < μ o 0) ∧ 0 ≤ i ∧ i < μ (o + 10) p.toNat then μ (o + 11) (p * 5 + i).toNat else -1
def gBy (μ : Mem) (o : Nat) (p r : Int) : Int := if gOne μ o r = p then gTwo μ o r else gOne μ o r
def gFar (μ : Mem) (o : Nat) (a b : Int) : Int := if (0 ≤ a ∧ a < μ o 0) ∧ (0 ≤ b ∧ b < μ o 0) then μ (o + 12) (a * 9 + b).toNat else -1
def gArm (μ : Mem) (o : Nat) (a b : Int) : Int := if (0 ≤ a ∧ a < μ o 0) ∧ (0 ≤ b ∧ b < μ o 0) then μ (o + 13) (a * 9 + b).toNat else -1
/-- a land's numbers in their bounds -/
def LOK (μ : Mem) (o : Nat) : Prop := (0 ≤ μ o 0 ∧ μ o 0 ≤ 9) ∧ (0 ≤ μ o 1 ∧ μ o 1 ≤ 14) ∧ (0 ≤ μ o 2 ∧ μ o 2 ≤ 20) ∧ (∀ p : Nat, 0 ≤ μ (o + 10) p ∧ μ (o + 10) p ≤ 5) ∧ ∀ k j : Nat, 4 ≤ k → k ≤ 13 → inR (μ (o + k) j)
theorem LOK.rg {μ : Mem} {o : Nat} (h : LOK μ o) (k j : Nat) (h1 : 4 ≤ k := by decide) (h2 : k ≤ 13 := by decide) : inR (μ (o + k) j) := h.2.2.2.2 k j h1 h2
theorem gOne_rg {μ : Mem} {o : Nat} (h : LOK μ o) (r : Int) : inR (gOne μ o r) := by
  unfold gOne; split
  · exact h.rg 4 _
  · decide
theorem gTwo_rg {μ : Mem} {o : Nat} (h : LOK μ o) (r : Int) : inR (gTwo μ o r) := by
  unfold gTwo; split
  · exact h.rg 5 _
  · decide
theorem gBy_rg {μ : Mem} {o : Nat} (h : LOK μ o) (p r : Int) : inR (gBy μ o p r) := by
  unfold gBy; split
  · exact gTwo_rg h r
  · exact gOne_rg h r
theorem gArm_rg {μ : Mem} {o : Nat} (h : LOK μ o) (p r : Int) : inR (gArm μ o p r) := by
  unfold gArm; split
  · exact h.rg 13 _
  · decide
theorem gFar_rg {μ : Mem} {o : Nat} (h : LOK μ o) (p r : Int) : inR (gFar μ o p r) := by
  unfold gFar; split
  · exact h.rg 12 _
  · decide
theorem gSd_rg {μ : Mem} {o : Nat} (h : LOK μ o) (p : Int) : 0 ≤ gSd μ o p ∧ gSd μ o p ≤ 5 := by
  unfold gSd; split
  · exact h.2.2.2.1 _
  · decide

set_option maxRecDepth 20000 in
theorem s_places {μ : Mem} {o : Nat} (ho : LandAt o) : SP mX4_places [vr o] μ (fun w m => w = vi (μ o 0) ∧ m = μ) := by
  refine SP_intro (ls := [vr o]) (by decide +kernel) rfl rfl (Nat.le_of_ble_eq_true rfl) rfl (fun X hX => ?_)
  refine V_aloadn (pc := 0) dX4_places_0 rfl ?_
  refine V_geti (r := 0) (pc := 1) dX4_places_1 fX4_42 (LandAt_k ho) ?_
  refine V_iret hX dX4_places_4 rfl ?_
  exact ⟨rfl, rfl⟩

set_option maxRecDepth 20000 in
theorem s_roads {μ : Mem} {o : Nat} (ho : LandAt o) : SP mX4_roads [vr o] μ (fun w m => w = vi (μ o 1) ∧ m = μ) := by
  refine SP_intro (ls := [vr o]) (by decide +kernel) rfl rfl (Nat.le_of_ble_eq_true rfl) rfl (fun X hX => ?_)
  refine V_aloadn (pc := 0) dX4_roads_0 rfl ?_
  refine V_geti (r := 0) (pc := 1) dX4_roads_1 fX4_46 (LandAt_k ho) ?_
  refine V_iret hX dX4_roads_4 rfl ?_
  exact ⟨rfl, rfl⟩

set_option maxRecDepth 20000 in
theorem s_travels {μ : Mem} {o : Nat} (ho : LandAt o) : SP mX4_travels [vr o] μ (fun w m => w = vi (μ o 2) ∧ m = μ) := by
  refine SP_intro (ls := [vr o]) (by decide +kernel) rfl rfl (Nat.le_of_ble_eq_true rfl) rfl (fun X hX => ?_)
  refine V_aloadn (pc := 0) dX4_travels_0 rfl ?_
  refine V_geti (r := 0) (pc := 1) dX4_travels_1 fX4_49 (LandAt_k ho) ?_
  refine V_iret hX dX4_travels_4 rfl ?_
  exact ⟨rfl, rfl⟩

set_option maxRecDepth 20000 in
theorem s_hasPlace {μ : Mem} {o : Nat} (ho : LandAt o) (hL : LOK μ o) {p : Int} (hp : inR p) : SP mX4_hasPlace [vr o, vi p] μ (fun w m => w = vi (bi (gP μ o p)) ∧ m = μ) := by
  refine SP_intro (ls := [vr o, vi p]) (by decide +kernel) rfl rfl (Nat.le_of_ble_eq_true rfl) rfl (fun X hX => ?_)
  obtain ⟨hL0, hL1, hL2, hL3, hL4⟩ := id hL
  refine V_iloadn (pc := 0) dX4_hasPlace_0 rfl ?_
  refine V_if_lt (pc := 1) (tgt := 22) dX4_hasPlace_1 (by decide) (by omega) (fun h1 => ?_) (fun h1 => ?_)
  · refine V_iconst (pc := 22) dX4_hasPlace_22 ?_
    refine V_zret hX dX4_hasPlace_23 rfl (by first | exact Or.inl rfl | exact Or.inr rfl | exact bi_01 _) ?_
    exact ⟨congrArg vi (by first | (exfalso; omega) | rw [bi_pos (by omega)] | rw [bi_neg (by omega)]), rfl⟩
  · refine V_iloadn (pc := 4) dX4_hasPlace_4 rfl ?_
    refine V_aloadn (pc := 5) dX4_hasPlace_5 rfl ?_
    refine V_geti (r := 0) (pc := 6) dX4_hasPlace_6 fX4_42 (LandAt_k ho) ?_
    refine V_icmp_ge (pc := 9) (tgt := 22) dX4_hasPlace_9 (by decide) (by omega) (by omega) (fun h9 => ?_) (fun h9 => ?_)
    · refine V_iconst (pc := 22) dX4_hasPlace_22 ?_
      refine V_zret hX dX4_hasPlace_23 rfl (by first | exact Or.inl rfl | exact Or.inr rfl | exact bi_01 _) ?_
      exact ⟨congrArg vi (by first | (exfalso; omega) | rw [bi_pos (by omega)] | rw [bi_neg (by omega)]), rfl⟩
    · refine V_iloadn (pc := 12) dX4_hasPlace_12 rfl ?_
      refine V_bipush (pc := 13) dX4_hasPlace_13 (by decide +kernel) ?_
      refine V_icmp_ge (pc := 15) (tgt := 22) dX4_hasPlace_15 (by decide) (by omega) (by decide) (fun h15 => ?_) (fun h15 => ?_)
      · refine V_iconst (pc := 22) dX4_hasPlace_22 ?_
        refine V_zret hX dX4_hasPlace_23 rfl (by first | exact Or.inl rfl | exact Or.inr rfl | exact bi_01 _) ?_
        exact ⟨congrArg vi (by first | (exfalso; omega) | rw [bi_pos (by omega)] | rw [bi_neg (by omega)]), rfl⟩
      · refine V_iconst (pc := 18) dX4_hasPlace_18 ?_
        refine V_goto (pc := 19) (tgt := 23) dX4_hasPlace_19 (by decide) ?_
        refine V_zret hX dX4_hasPlace_23 rfl (by first | exact Or.inl rfl | exact Or.inr rfl | exact bi_01 _) ?_
        exact ⟨congrArg vi (by first | (exfalso; omega) | rw [bi_pos (by omega)] | rw [bi_neg (by omega)]), rfl⟩

set_option maxRecDepth 20000 in
theorem s_hasRoad {μ : Mem} {o : Nat} (ho : LandAt o) (hL : LOK μ o) {p : Int} (hp : inR p) : SP mX4_hasRoad [vr o, vi p] μ (fun w m => w = vi (bi (0 ≤ p ∧ p < μ o 1)) ∧ m = μ) := by
  refine SP_intro (ls := [vr o, vi p]) (by decide +kernel) rfl rfl (Nat.le_of_ble_eq_true rfl) rfl (fun X hX => ?_)
  obtain ⟨hL0, hL1, hL2, hL3, hL4⟩ := id hL
  refine V_iloadn (pc := 0) dX4_hasRoad_0 rfl ?_
  refine V_if_lt (pc := 1) (tgt := 22) dX4_hasRoad_1 (by decide) (by omega) (fun h1 => ?_) (fun h1 => ?_)
  · refine V_iconst (pc := 22) dX4_hasRoad_22 ?_
    refine V_zret hX dX4_hasRoad_23 rfl (by first | exact Or.inl rfl | exact Or.inr rfl | exact bi_01 _) ?_
    exact ⟨congrArg vi (by first | (exfalso; omega) | rw [bi_pos (by omega)] | rw [bi_neg (by omega)]), rfl⟩
  · refine V_iloadn (pc := 4) dX4_hasRoad_4 rfl ?_
    refine V_aloadn (pc := 5) dX4_hasRoad_5 rfl ?_
    refine V_geti (r := 0) (pc := 6) dX4_hasRoad_6 fX4_46 (LandAt_k ho) ?_
    refine V_icmp_ge (pc := 9) (tgt := 22) dX4_hasRoad_9 (by decide) (by omega) (by omega) (fun h9 => ?_) (fun h9 => ?_)
    · refine V_iconst (pc := 22) dX4_hasRoad_22 ?_
      refine V_zret hX dX4_hasRoad_23 rfl (by first | exact Or.inl rfl | exact Or.inr rfl | exact bi_01 _) ?_
      exact ⟨congrArg vi (by first | (exfalso; omega) | rw [bi_pos (by omega)] | rw [bi_neg (by omega)]), rfl⟩
    · refine V_iloadn (pc := 12) dX4_hasRoad_12 rfl ?_
      refine V_bipush (pc := 13) dX4_hasRoad_13 (by decide +kernel) ?_
      refine V_icmp_ge (pc := 15) (tgt := 22) dX4_hasRoad_15 (by decide) (by omega) (by decide) (fun h15 => ?_) (fun h15 => ?_)
      · refine V_iconst (pc := 22) dX4_hasRoad_22 ?_
        refine V_zret hX dX4_hasRoad_23 rfl (by first | exact Or.inl rfl | exact Or.inr rfl | exact bi_01 _) ?_
        exact ⟨congrArg vi (by first | (exfalso; omega) | rw [bi_pos (by omega)] | rw [bi_neg (by omega)]), rfl⟩
      · refine V_iconst (pc := 18) dX4_hasRoad_18 ?_
        refine V_goto (pc := 19) (tgt := 23) dX4_hasRoad_19 (by decide) ?_
        refine V_zret hX dX4_hasRoad_23 rfl (by first | exact Or.inl rfl | exact Or.inr rfl | exact bi_01 _) ?_
        exact ⟨congrArg vi (by first | (exfalso; omega) | rw [bi_pos (by omega)] | rw [bi_neg (by omega)]), rfl⟩

set_option maxRecDepth 20000 in
theorem s_hasTravel {μ : Mem} {o : Nat} (ho : LandAt o) (hL : LOK μ o) {p : Int} (hp : inR p) : SP mX4_hasTravel [vr o, vi p] μ (fun w m => w = vi (bi (0 ≤ p ∧ p < μ o 2)) ∧ m = μ) := by
  refine SP_intro (ls := [vr o, vi p]) (by decide +kernel) rfl rfl (Nat.le_of_ble_eq_true rfl) rfl (fun X hX => ?_)
  obtain ⟨hL0, hL1, hL2, hL3, hL4⟩ := id hL
  refine V_iloadn (pc := 0) dX4_hasTravel_0 rfl ?_
  refine V_if_lt (pc := 1) (tgt := 22) dX4_hasTravel_1 (by decide) (by omega) (fun h1 => ?_) (fun h1 => ?_)
  · refine V_iconst (pc := 22) dX4_hasTravel_22 ?_
    refine V_zret hX dX4_hasTravel_23 rfl (by first | exact Or.inl rfl | exact Or.inr rfl | exact bi_01 _) ?_
    exact ⟨congrArg vi (by first | (exfalso; omega) | rw [bi_pos (by omega)] | rw [bi_neg (by omega)]), rfl⟩
  · refine V_iloadn (pc := 4) dX4_hasTravel_4 rfl ?_
    refine V_aloadn (pc := 5) dX4_hasTravel_5 rfl ?_
    refine V_geti (r := 0) (pc := 6) dX4_hasTravel_6 fX4_49 (LandAt_k ho) ?_
    refine V_icmp_ge (pc := 9) (tgt := 22) dX4_hasTravel_9 (by decide) (by omega) (by omega) (fun h9 => ?_) (fun h9 => ?_)
    · refine V_iconst (pc := 22) dX4_hasTravel_22 ?_
      refine V_zret hX dX4_hasTravel_23 rfl (by first | exact Or.inl rfl | exact Or.inr rfl | exact bi_01 _) ?_
      exact ⟨congrArg vi (by first | (exfalso; omega) | rw [bi_pos (by omega)] | rw [bi_neg (by omega)]), rfl⟩
    · refine V_iloadn (pc := 12) dX4_hasTravel_12 rfl ?_
      refine V_bipush (pc := 13) dX4_hasTravel_13 (by decide +kernel) ?_
      refine V_icmp_ge (pc := 15) (tgt := 22) dX4_hasTravel_15 (by decide) (by omega) (by decide) (fun h15 => ?_) (fun h15 => ?_)
      · refine V_iconst (pc := 22) dX4_hasTravel_22 ?_
        refine V_zret hX dX4_hasTravel_23 rfl (by first | exact Or.inl rfl | exact Or.inr rfl | exact bi_01 _) ?_
        exact ⟨congrArg vi (by first | (exfalso; omega) | rw [bi_pos (by omega)] | rw [bi_neg (by omega)]), rfl⟩
      · refine V_iconst (pc := 18) dX4_hasTravel_18 ?_
        refine V_goto (pc := 19) (tgt := 23) dX4_hasTravel_19 (by decide) ?_
        refine V_zret hX dX4_hasTravel_23 rfl (by first | exact Or.inl rfl | exact Or.inr rfl | exact bi_01 _) ?_
        exact ⟨congrArg vi (by first | (exfalso; omega) | rw [bi_pos (by omega)] | rw [bi_neg (by omega)]), rfl⟩

set_option maxRecDepth 20000 in
theorem s_hasSide {μ : Mem} {o : Nat} (ho : LandAt o) (hL : LOK μ o) {p i : Int} (hp : inR p) (hi : inR i) : SP mX4_hasSide [vr o, vi p, vi i] μ (fun w m => w = vi (bi (gS μ o p i)) ∧ m = μ) := by
  refine SP_intro (ls := [vr o, vi p, vi i]) (by decide +kernel) rfl rfl (Nat.le_of_ble_eq_true rfl) rfl (fun X hX => ?_)
  obtain ⟨hL0, hL1, hL2, hL3, hL4⟩ := id hL
  have hs := hL3 p.toNat
  refine V_aloadn (pc := 0) dX4_hasSide_0 rfl ?_
  refine V_iloadn (pc := 1) dX4_hasSide_1 rfl ?_
  refine V_cv1 (pc := 2) dX4_hasSide_2 kX4_58 (LandAt_k ho) (by decide) (Nat.le_of_ble_eq_true rfl) (s_hasPlace ho hL (p := p) (by omega)) rfl ?_
  refine V_ifeq_b (pc := 5) (tgt := 31) dX4_hasSide_5 (by decide) (fun h5 => ?_) (fun h5 => ?_)
  · refine V_iconst (pc := 31) dX4_hasSide_31 ?_
    refine V_zret hX dX4_hasSide_32 rfl (by first | exact Or.inl rfl | exact Or.inr rfl | exact bi_01 _) ?_
    exact ⟨congrArg vi (by first | (exfalso; omega) | rw [bi_pos (by omega)] | rw [bi_neg (by omega)]), rfl⟩
  · refine V_iloadn (pc := 8) dX4_hasSide_8 rfl ?_
    refine V_if_lt (pc := 9) (tgt := 31) dX4_hasSide_9 (by decide) (by omega) (fun h9 => ?_) (fun h9 => ?_)
    · refine V_iconst (pc := 31) dX4_hasSide_31 ?_
      refine V_zret hX dX4_hasSide_32 rfl (by first | exact Or.inl rfl | exact Or.inr rfl | exact bi_01 _) ?_
      exact ⟨congrArg vi (by first | (exfalso; omega) | rw [bi_pos (by omega)] | rw [bi_neg (by omega)]), rfl⟩
    · refine V_iloadn (pc := 12) dX4_hasSide_12 rfl ?_
      refine V_aloadn (pc := 13) dX4_hasSide_13 rfl ?_
      refine V_getr (pc := 14) dX4_hasSide_14 fX4_30 (LandAt_k ho) (LandAt_z9 ho) ?_
      refine V_iloadn (pc := 17) dX4_hasSide_17 rfl ?_
      refine V_iald (pc := 18) dX4_hasSide_18 (LandAt_a9 ho) (by omega) (by omega) (by decide) ?_
      refine V_icmp_ge (pc := 19) (tgt := 31) dX4_hasSide_19 (by decide) (by omega) (by omega) (fun h19 => ?_) (fun h19 => ?_)
      · refine V_iconst (pc := 31) dX4_hasSide_31 ?_
        refine V_zret hX dX4_hasSide_32 rfl (by first | exact Or.inl rfl | exact Or.inr rfl | exact bi_01 _) ?_
        exact ⟨congrArg vi (by first | (exfalso; omega) | rw [bi_pos (by omega)] | rw [bi_neg (by omega)]), rfl⟩
      · refine V_iloadn (pc := 22) dX4_hasSide_22 rfl ?_
        refine V_iconst (pc := 23) dX4_hasSide_23 ?_
        refine V_icmp_ge (pc := 24) (tgt := 31) dX4_hasSide_24 (by decide) (by omega) (by decide) (fun h24 => ?_) (fun h24 => ?_)
        · refine V_iconst (pc := 31) dX4_hasSide_31 ?_
          refine V_zret hX dX4_hasSide_32 rfl (by first | exact Or.inl rfl | exact Or.inr rfl | exact bi_01 _) ?_
          exact ⟨congrArg vi (by first | (exfalso; omega) | rw [bi_pos (by omega)] | rw [bi_neg (by omega)]), rfl⟩
        · refine V_iconst (pc := 27) dX4_hasSide_27 ?_
          refine V_goto (pc := 28) (tgt := 32) dX4_hasSide_28 (by decide) ?_
          refine V_zret hX dX4_hasSide_32 rfl (by first | exact Or.inl rfl | exact Or.inr rfl | exact bi_01 _) ?_
          exact ⟨congrArg vi (by first | (exfalso; omega) | rw [bi_pos (by omega)] | rw [bi_neg (by omega)]), rfl⟩

set_option maxRecDepth 20000 in
theorem s_sidesOf {μ : Mem} {o : Nat} (ho : LandAt o) (hL : LOK μ o) {p : Int} (hp : inR p) : SP mX4_sidesOf [vr o, vi p] μ (fun w m => w = vi (gSd μ o p) ∧ m = μ) := by
  refine SP_intro (ls := [vr o, vi p]) (by decide +kernel) rfl rfl (Nat.le_of_ble_eq_true rfl) rfl (fun X hX => ?_)
  obtain ⟨hL0, hL1, hL2, hL3, hL4⟩ := id hL
  refine V_aloadn (pc := 0) dX4_sidesOf_0 rfl ?_
  refine V_iloadn (pc := 1) dX4_sidesOf_1 rfl ?_
  refine V_cv1 (pc := 2) dX4_sidesOf_2 kX4_58 (LandAt_k ho) (by decide) (Nat.le_of_ble_eq_true rfl) (s_hasPlace ho hL (p := p) (by omega)) rfl ?_
  refine V_ifeq_b (pc := 5) (tgt := 17) dX4_sidesOf_5 (by decide) (fun h5 => ?_) (fun h5 => ?_)
  · refine V_iconst (pc := 17) dX4_sidesOf_17 ?_
    refine V_iret hX dX4_sidesOf_18 rfl ?_
    exact ⟨congrArg vi (by unfold gSd; first | (exfalso; omega) | rw [if_pos (by omega)] | rw [if_neg (by omega)]), rfl⟩
  · refine V_aloadn (pc := 8) dX4_sidesOf_8 rfl ?_
    refine V_getr (pc := 9) dX4_sidesOf_9 fX4_30 (LandAt_k ho) (LandAt_z9 ho) ?_
    refine V_iloadn (pc := 12) dX4_sidesOf_12 rfl ?_
    refine V_iald (pc := 13) dX4_sidesOf_13 (LandAt_a9 ho) (by omega) (by omega) (by decide) ?_
    refine V_goto (pc := 14) (tgt := 18) dX4_sidesOf_14 (by decide) ?_
    refine V_iret hX dX4_sidesOf_18 rfl ?_
    exact ⟨congrArg vi (by unfold gSd; first | (exfalso; omega) | rw [if_pos (by omega)] | rw [if_neg (by omega)]), rfl⟩

set_option maxRecDepth 20000 in
theorem s_roadStart {μ : Mem} {o : Nat} (ho : LandAt o) (hL : LOK μ o) {p : Int} (hp : inR p) : SP mX4_roadStart [vr o, vi p] μ (fun w m => w = vi (gOne μ o p) ∧ m = μ) := by
  refine SP_intro (ls := [vr o, vi p]) (by decide +kernel) rfl rfl (Nat.le_of_ble_eq_true rfl) rfl (fun X hX => ?_)
  obtain ⟨hL0, hL1, hL2, hL3, hL4⟩ := id hL
  refine V_aloadn (pc := 0) dX4_roadStart_0 rfl ?_
  refine V_iloadn (pc := 1) dX4_roadStart_1 rfl ?_
  refine V_cv1 (pc := 2) dX4_roadStart_2 kX4_62 (LandAt_k ho) (by decide) (Nat.le_of_ble_eq_true rfl) (s_hasRoad ho hL (p := p) (by omega)) rfl ?_
  refine V_ifeq_b (pc := 5) (tgt := 17) dX4_roadStart_5 (by decide) (fun h5 => ?_) (fun h5 => ?_)
  · refine V_iconst (pc := 17) dX4_roadStart_17 ?_
    refine V_iret hX dX4_roadStart_18 rfl ?_
    exact ⟨congrArg vi (by unfold gOne; first | (exfalso; omega) | rw [if_pos (by omega)] | rw [if_neg (by omega)]), rfl⟩
  · refine V_aloadn (pc := 8) dX4_roadStart_8 rfl ?_
    refine V_getr (pc := 9) dX4_roadStart_9 fX4_9 (LandAt_k ho) (LandAt_z3 ho) ?_
    refine V_iloadn (pc := 12) dX4_roadStart_12 rfl ?_
    refine V_iald (pc := 13) dX4_roadStart_13 (LandAt_a3 ho) (by omega) (by omega) (by decide) ?_
    refine V_goto (pc := 14) (tgt := 18) dX4_roadStart_14 (by decide) ?_
    refine V_iret hX dX4_roadStart_18 rfl ?_
    exact ⟨congrArg vi (by unfold gOne; first | (exfalso; omega) | rw [if_pos (by omega)] | rw [if_neg (by omega)]), rfl⟩

set_option maxRecDepth 20000 in
theorem s_roadEnd {μ : Mem} {o : Nat} (ho : LandAt o) (hL : LOK μ o) {p : Int} (hp : inR p) : SP mX4_roadEnd [vr o, vi p] μ (fun w m => w = vi (gTwo μ o p) ∧ m = μ) := by
  refine SP_intro (ls := [vr o, vi p]) (by decide +kernel) rfl rfl (Nat.le_of_ble_eq_true rfl) rfl (fun X hX => ?_)
  obtain ⟨hL0, hL1, hL2, hL3, hL4⟩ := id hL
  refine V_aloadn (pc := 0) dX4_roadEnd_0 rfl ?_
  refine V_iloadn (pc := 1) dX4_roadEnd_1 rfl ?_
  refine V_cv1 (pc := 2) dX4_roadEnd_2 kX4_62 (LandAt_k ho) (by decide) (Nat.le_of_ble_eq_true rfl) (s_hasRoad ho hL (p := p) (by omega)) rfl ?_
  refine V_ifeq_b (pc := 5) (tgt := 17) dX4_roadEnd_5 (by decide) (fun h5 => ?_) (fun h5 => ?_)
  · refine V_iconst (pc := 17) dX4_roadEnd_17 ?_
    refine V_iret hX dX4_roadEnd_18 rfl ?_
    exact ⟨congrArg vi (by unfold gTwo; first | (exfalso; omega) | rw [if_pos (by omega)] | rw [if_neg (by omega)]), rfl⟩
  · refine V_aloadn (pc := 8) dX4_roadEnd_8 rfl ?_
    refine V_getr (pc := 9) dX4_roadEnd_9 fX4_15 (LandAt_k ho) (LandAt_z4 ho) ?_
    refine V_iloadn (pc := 12) dX4_roadEnd_12 rfl ?_
    refine V_iald (pc := 13) dX4_roadEnd_13 (LandAt_a4 ho) (by omega) (by omega) (by decide) ?_
    refine V_goto (pc := 14) (tgt := 18) dX4_roadEnd_14 (by decide) ?_
    refine V_iret hX dX4_roadEnd_18 rfl ?_
    exact ⟨congrArg vi (by unfold gTwo; first | (exfalso; omega) | rw [if_pos (by omega)] | rw [if_neg (by omega)]), rfl⟩

set_option maxRecDepth 20000 in
theorem s_roadMiles {μ : Mem} {o : Nat} (ho : LandAt o) (hL : LOK μ o) {p : Int} (hp : inR p) : SP mX4_roadMiles [vr o, vi p] μ (fun w m => w = vi (gLn μ o p) ∧ m = μ) := by
  refine SP_intro (ls := [vr o, vi p]) (by decide +kernel) rfl rfl (Nat.le_of_ble_eq_true rfl) rfl (fun X hX => ?_)
  obtain ⟨hL0, hL1, hL2, hL3, hL4⟩ := id hL
  refine V_aloadn (pc := 0) dX4_roadMiles_0 rfl ?_
  refine V_iloadn (pc := 1) dX4_roadMiles_1 rfl ?_
  refine V_cv1 (pc := 2) dX4_roadMiles_2 kX4_62 (LandAt_k ho) (by decide) (Nat.le_of_ble_eq_true rfl) (s_hasRoad ho hL (p := p) (by omega)) rfl ?_
  refine V_ifeq_b (pc := 5) (tgt := 17) dX4_roadMiles_5 (by decide) (fun h5 => ?_) (fun h5 => ?_)
  · refine V_iconst (pc := 17) dX4_roadMiles_17 ?_
    refine V_iret hX dX4_roadMiles_18 rfl ?_
    exact ⟨congrArg vi (by unfold gLn; first | (exfalso; omega) | rw [if_pos (by omega)] | rw [if_neg (by omega)]), rfl⟩
  · refine V_aloadn (pc := 8) dX4_roadMiles_8 rfl ?_
    refine V_getr (pc := 9) dX4_roadMiles_9 fX4_18 (LandAt_k ho) (LandAt_z5 ho) ?_
    refine V_iloadn (pc := 12) dX4_roadMiles_12 rfl ?_
    refine V_iald (pc := 13) dX4_roadMiles_13 (LandAt_a5 ho) (by omega) (by omega) (by decide) ?_
    refine V_goto (pc := 14) (tgt := 18) dX4_roadMiles_14 (by decide) ?_
    refine V_iret hX dX4_roadMiles_18 rfl ?_
    exact ⟨congrArg vi (by unfold gLn; first | (exfalso; omega) | rw [if_pos (by omega)] | rw [if_neg (by omega)]), rfl⟩

set_option maxRecDepth 20000 in
theorem s_travelFrom {μ : Mem} {o : Nat} (ho : LandAt o) (hL : LOK μ o) {p : Int} (hp : inR p) : SP mX4_travelFrom [vr o, vi p] μ (fun w m => w = vi (gFr μ o p) ∧ m = μ) := by
  refine SP_intro (ls := [vr o, vi p]) (by decide +kernel) rfl rfl (Nat.le_of_ble_eq_true rfl) rfl (fun X hX => ?_)
  obtain ⟨hL0, hL1, hL2, hL3, hL4⟩ := id hL
  refine V_aloadn (pc := 0) dX4_travelFrom_0 rfl ?_
  refine V_iloadn (pc := 1) dX4_travelFrom_1 rfl ?_
  refine V_cv1 (pc := 2) dX4_travelFrom_2 kX4_65 (LandAt_k ho) (by decide) (Nat.le_of_ble_eq_true rfl) (s_hasTravel ho hL (p := p) (by omega)) rfl ?_
  refine V_ifeq_b (pc := 5) (tgt := 17) dX4_travelFrom_5 (by decide) (fun h5 => ?_) (fun h5 => ?_)
  · refine V_iconst (pc := 17) dX4_travelFrom_17 ?_
    refine V_iret hX dX4_travelFrom_18 rfl ?_
    exact ⟨congrArg vi (by unfold gFr; first | (exfalso; omega) | rw [if_pos (by omega)] | rw [if_neg (by omega)]), rfl⟩
  · refine V_aloadn (pc := 8) dX4_travelFrom_8 rfl ?_
    refine V_getr (pc := 9) dX4_travelFrom_9 fX4_21 (LandAt_k ho) (LandAt_z6 ho) ?_
    refine V_iloadn (pc := 12) dX4_travelFrom_12 rfl ?_
    refine V_iald (pc := 13) dX4_travelFrom_13 (LandAt_a6 ho) (by omega) (by omega) (by decide) ?_
    refine V_goto (pc := 14) (tgt := 18) dX4_travelFrom_14 (by decide) ?_
    refine V_iret hX dX4_travelFrom_18 rfl ?_
    exact ⟨congrArg vi (by unfold gFr; first | (exfalso; omega) | rw [if_pos (by omega)] | rw [if_neg (by omega)]), rfl⟩

set_option maxRecDepth 20000 in
theorem s_travelTo {μ : Mem} {o : Nat} (ho : LandAt o) (hL : LOK μ o) {p : Int} (hp : inR p) : SP mX4_travelTo [vr o, vi p] μ (fun w m => w = vi (gTo μ o p) ∧ m = μ) := by
  refine SP_intro (ls := [vr o, vi p]) (by decide +kernel) rfl rfl (Nat.le_of_ble_eq_true rfl) rfl (fun X hX => ?_)
  obtain ⟨hL0, hL1, hL2, hL3, hL4⟩ := id hL
  refine V_aloadn (pc := 0) dX4_travelTo_0 rfl ?_
  refine V_iloadn (pc := 1) dX4_travelTo_1 rfl ?_
  refine V_cv1 (pc := 2) dX4_travelTo_2 kX4_65 (LandAt_k ho) (by decide) (Nat.le_of_ble_eq_true rfl) (s_hasTravel ho hL (p := p) (by omega)) rfl ?_
  refine V_ifeq_b (pc := 5) (tgt := 17) dX4_travelTo_5 (by decide) (fun h5 => ?_) (fun h5 => ?_)
  · refine V_iconst (pc := 17) dX4_travelTo_17 ?_
    refine V_iret hX dX4_travelTo_18 rfl ?_
    exact ⟨congrArg vi (by unfold gTo; first | (exfalso; omega) | rw [if_pos (by omega)] | rw [if_neg (by omega)]), rfl⟩
  · refine V_aloadn (pc := 8) dX4_travelTo_8 rfl ?_
    refine V_getr (pc := 9) dX4_travelTo_9 fX4_24 (LandAt_k ho) (LandAt_z7 ho) ?_
    refine V_iloadn (pc := 12) dX4_travelTo_12 rfl ?_
    refine V_iald (pc := 13) dX4_travelTo_13 (LandAt_a7 ho) (by omega) (by omega) (by decide) ?_
    refine V_goto (pc := 14) (tgt := 18) dX4_travelTo_14 (by decide) ?_
    refine V_iret hX dX4_travelTo_18 rfl ?_
    exact ⟨congrArg vi (by unfold gTo; first | (exfalso; omega) | rw [if_pos (by omega)] | rw [if_neg (by omega)]), rfl⟩

set_option maxRecDepth 20000 in
theorem s_travelHeads {μ : Mem} {o : Nat} (ho : LandAt o) (hL : LOK μ o) {p : Int} (hp : inR p) : SP mX4_travelHeads [vr o, vi p] μ (fun w m => w = vi (gHd μ o p) ∧ m = μ) := by
  refine SP_intro (ls := [vr o, vi p]) (by decide +kernel) rfl rfl (Nat.le_of_ble_eq_true rfl) rfl (fun X hX => ?_)
  obtain ⟨hL0, hL1, hL2, hL3, hL4⟩ := id hL
  refine V_aloadn (pc := 0) dX4_travelHeads_0 rfl ?_
  refine V_iloadn (pc := 1) dX4_travelHeads_1 rfl ?_
  refine V_cv1 (pc := 2) dX4_travelHeads_2 kX4_65 (LandAt_k ho) (by decide) (Nat.le_of_ble_eq_true rfl) (s_hasTravel ho hL (p := p) (by omega)) rfl ?_
  refine V_ifeq_b (pc := 5) (tgt := 17) dX4_travelHeads_5 (by decide) (fun h5 => ?_) (fun h5 => ?_)
  · refine V_iconst (pc := 17) dX4_travelHeads_17 ?_
    refine V_iret hX dX4_travelHeads_18 rfl ?_
    exact ⟨congrArg vi (by unfold gHd; first | (exfalso; omega) | rw [if_pos (by omega)] | rw [if_neg (by omega)]), rfl⟩
  · refine V_aloadn (pc := 8) dX4_travelHeads_8 rfl ?_
    refine V_getr (pc := 9) dX4_travelHeads_9 fX4_27 (LandAt_k ho) (LandAt_z8 ho) ?_
    refine V_iloadn (pc := 12) dX4_travelHeads_12 rfl ?_
    refine V_iald (pc := 13) dX4_travelHeads_13 (LandAt_a8 ho) (by omega) (by omega) (by decide) ?_
    refine V_goto (pc := 14) (tgt := 18) dX4_travelHeads_14 (by decide) ?_
    refine V_iret hX dX4_travelHeads_18 rfl ?_
    exact ⟨congrArg vi (by unfold gHd; first | (exfalso; omega) | rw [if_pos (by omega)] | rw [if_neg (by omega)]), rfl⟩

set_option maxRecDepth 20000 in
theorem s_roadAtSide {μ : Mem} {o : Nat} (ho : LandAt o) (hL : LOK μ o) {p i : Int} (hp : inR p) (hi : inR i) : SP mX4_roadAtSide [vr o, vi p, vi i] μ (fun w m => w = vi (gRd μ o p i) ∧ m = μ) := by
  refine SP_intro (ls := [vr o, vi p, vi i]) (by decide +kernel) rfl rfl (Nat.le_of_ble_eq_true rfl) rfl (fun X hX => ?_)
  obtain ⟨hL0, hL1, hL2, hL3, hL4⟩ := id hL
  have hs := hL3 p.toNat
  refine V_aloadn (pc := 0) dX4_roadAtSide_0 rfl ?_
  refine V_iloadn (pc := 1) dX4_roadAtSide_1 rfl ?_
  refine V_iloadn (pc := 2) dX4_roadAtSide_2 rfl ?_
  refine V_cv2 (pc := 3) dX4_roadAtSide_3 kX4_68 (LandAt_k ho) (by decide) (Nat.le_of_ble_eq_true rfl) (s_hasSide ho hL (p := p) (i := i) (by omega) (by omega)) rfl ?_
  refine V_ifeq_b (pc := 6) (tgt := 22) dX4_roadAtSide_6 (by decide) (fun h6 => ?_) (fun h6 => ?_)
  · refine V_iconst (pc := 22) dX4_roadAtSide_22 ?_
    refine V_iret hX dX4_roadAtSide_23 rfl ?_
    exact ⟨congrArg vi (by unfold gRd; first | (exfalso; omega) | rw [if_pos (by omega)] | rw [if_neg (by omega)]), rfl⟩
  · refine V_aloadn (pc := 9) dX4_roadAtSide_9 rfl ?_
    refine V_getr (pc := 10) dX4_roadAtSide_10 fX4_33 (LandAt_k ho) (LandAt_z10 ho) ?_
    refine V_iloadn (pc := 13) dX4_roadAtSide_13 rfl ?_
    refine V_iconst (pc := 14) dX4_roadAtSide_14 ?_
    refine V_imul (pc := 15) dX4_roadAtSide_15 ?_
    refine V_iloadn (pc := 16) dX4_roadAtSide_16 rfl ?_
    refine V_iadd (pc := 17) dX4_roadAtSide_17 ?_
    refine V_iald (pc := 18) dX4_roadAtSide_18 (LandAt_a10 ho) (by omega) (by omega) (by decide) ?_
    refine V_goto (pc := 19) (tgt := 23) dX4_roadAtSide_19 (by decide) ?_
    refine V_iret hX dX4_roadAtSide_23 rfl ?_
    exact ⟨congrArg vi (by unfold gRd; first | (exfalso; omega) | rw [if_pos (by omega)] | rw [if_neg (by omega)]), rfl⟩

set_option maxRecDepth 20000 in
theorem s_fewestMiles {μ : Mem} {o : Nat} (ho : LandAt o) (hL : LOK μ o) {p q : Int} (hp : inR p) (hq : inR q) : SP mX4_fewestMiles [vr o, vi p, vi q] μ (fun w m => w = vi (gFar μ o p q) ∧ m = μ) := by
  refine SP_intro (ls := [vr o, vi p, vi q]) (by decide +kernel) rfl rfl (Nat.le_of_ble_eq_true rfl) rfl (fun X hX => ?_)
  obtain ⟨hL0, hL1, hL2, hL3, hL4⟩ := id hL
  refine V_aloadn (pc := 0) dX4_fewestMiles_0 rfl ?_
  refine V_iloadn (pc := 1) dX4_fewestMiles_1 rfl ?_
  refine V_cv1 (pc := 2) dX4_fewestMiles_2 kX4_58 (LandAt_k ho) (by decide) (Nat.le_of_ble_eq_true rfl) (s_hasPlace ho hL (by omega)) rfl ?_
  refine V_ifeq_b (pc := 5) (tgt := 30) dX4_fewestMiles_5 (by decide) (fun h5 => ?_) (fun h5 => ?_)
  · refine V_iconst (pc := 30) dX4_fewestMiles_30 ?_
    refine V_iret hX dX4_fewestMiles_31 rfl ?_
    exact ⟨congrArg vi (by unfold gFar; first | (exfalso; omega) | rw [if_pos (by omega)] | rw [if_neg (by omega)]), rfl⟩
  · refine V_aloadn (pc := 8) dX4_fewestMiles_8 rfl ?_
    refine V_iloadn (pc := 9) dX4_fewestMiles_9 rfl ?_
    refine V_cv1 (pc := 10) dX4_fewestMiles_10 kX4_58 (LandAt_k ho) (by decide) (Nat.le_of_ble_eq_true rfl) (s_hasPlace ho hL (by omega)) rfl ?_
    refine V_ifeq_b (pc := 13) (tgt := 30) dX4_fewestMiles_13 (by decide) (fun h13 => ?_) (fun h13 => ?_)
    · refine V_iconst (pc := 30) dX4_fewestMiles_30 ?_
      refine V_iret hX dX4_fewestMiles_31 rfl ?_
      exact ⟨congrArg vi (by unfold gFar; first | (exfalso; omega) | rw [if_pos (by omega)] | rw [if_neg (by omega)]), rfl⟩
    · refine V_aloadn (pc := 16) dX4_fewestMiles_16 rfl ?_
      refine V_getr (pc := 17) dX4_fewestMiles_17 fX4_36 (LandAt_k ho) (LandAt_z11 ho) ?_
      refine V_iloadn (pc := 20) dX4_fewestMiles_20 rfl ?_
      refine V_bipush (pc := 21) dX4_fewestMiles_21 (by decide +kernel) ?_
      refine V_imul (pc := 23) dX4_fewestMiles_23 ?_
      refine V_iloadn (pc := 24) dX4_fewestMiles_24 rfl ?_
      refine V_iadd (pc := 25) dX4_fewestMiles_25 ?_
      refine V_iald (pc := 26) dX4_fewestMiles_26 (LandAt_a11 ho) (by omega) (by omega) (by decide) ?_
      refine V_goto (pc := 27) (tgt := 31) dX4_fewestMiles_27 (by decide) ?_
      refine V_iret hX dX4_fewestMiles_31 rfl ?_
      exact ⟨congrArg vi (by unfold gFar; first | (exfalso; omega) | rw [if_pos (by omega)] | rw [if_neg (by omega)]), rfl⟩

set_option maxRecDepth 20000 in
theorem s_trueArm {μ : Mem} {o : Nat} (ho : LandAt o) (hL : LOK μ o) {p q : Int} (hp : inR p) (hq : inR q) : SP mX4_trueArm [vr o, vi p, vi q] μ (fun w m => w = vi (gArm μ o p q) ∧ m = μ) := by
  refine SP_intro (ls := [vr o, vi p, vi q]) (by decide +kernel) rfl rfl (Nat.le_of_ble_eq_true rfl) rfl (fun X hX => ?_)
  obtain ⟨hL0, hL1, hL2, hL3, hL4⟩ := id hL
  refine V_aloadn (pc := 0) dX4_trueArm_0 rfl ?_
  refine V_iloadn (pc := 1) dX4_trueArm_1 rfl ?_
  refine V_cv1 (pc := 2) dX4_trueArm_2 kX4_58 (LandAt_k ho) (by decide) (Nat.le_of_ble_eq_true rfl) (s_hasPlace ho hL (by omega)) rfl ?_
  refine V_ifeq_b (pc := 5) (tgt := 30) dX4_trueArm_5 (by decide) (fun h5 => ?_) (fun h5 => ?_)
  · refine V_iconst (pc := 30) dX4_trueArm_30 ?_
    refine V_iret hX dX4_trueArm_31 rfl ?_
    exact ⟨congrArg vi (by unfold gArm; first | (exfalso; omega) | rw [if_pos (by omega)] | rw [if_neg (by omega)]), rfl⟩
  · refine V_aloadn (pc := 8) dX4_trueArm_8 rfl ?_
    refine V_iloadn (pc := 9) dX4_trueArm_9 rfl ?_
    refine V_cv1 (pc := 10) dX4_trueArm_10 kX4_58 (LandAt_k ho) (by decide) (Nat.le_of_ble_eq_true rfl) (s_hasPlace ho hL (by omega)) rfl ?_
    refine V_ifeq_b (pc := 13) (tgt := 30) dX4_trueArm_13 (by decide) (fun h13 => ?_) (fun h13 => ?_)
    · refine V_iconst (pc := 30) dX4_trueArm_30 ?_
      refine V_iret hX dX4_trueArm_31 rfl ?_
      exact ⟨congrArg vi (by unfold gArm; first | (exfalso; omega) | rw [if_pos (by omega)] | rw [if_neg (by omega)]), rfl⟩
    · refine V_aloadn (pc := 16) dX4_trueArm_16 rfl ?_
      refine V_getr (pc := 17) dX4_trueArm_17 fX4_39 (LandAt_k ho) (LandAt_z12 ho) ?_
      refine V_iloadn (pc := 20) dX4_trueArm_20 rfl ?_
      refine V_bipush (pc := 21) dX4_trueArm_21 (by decide +kernel) ?_
      refine V_imul (pc := 23) dX4_trueArm_23 ?_
      refine V_iloadn (pc := 24) dX4_trueArm_24 rfl ?_
      refine V_iadd (pc := 25) dX4_trueArm_25 ?_
      refine V_iald (pc := 26) dX4_trueArm_26 (LandAt_a12 ho) (by omega) (by omega) (by decide) ?_
      refine V_goto (pc := 27) (tgt := 31) dX4_trueArm_27 (by decide) ?_
      refine V_iret hX dX4_trueArm_31 rfl ?_
      exact ⟨congrArg vi (by unfold gArm; first | (exfalso; omega) | rw [if_pos (by omega)] | rw [if_neg (by omega)]), rfl⟩

set_option maxRecDepth 20000 in
theorem s_beyondRoad {μ : Mem} {o : Nat} (ho : LandAt o) (hL : LOK μ o) {p r : Int} (hp : inR p) (hr : inR r) : SP mX4_beyondRoad [vr o, vi p, vi r] μ (fun w m => w = vi (gBy μ o p r) ∧ m = μ) := by
  refine SP_intro (ls := [vr o, vi p, vi r]) (by decide +kernel) rfl rfl (Nat.le_of_ble_eq_true rfl) rfl (fun X hX => ?_)
  have hg := gOne_rg hL r
  refine V_aloadn (pc := 0) dX4_beyondRoad_0 rfl ?_
  refine V_iloadn (pc := 1) dX4_beyondRoad_1 rfl ?_
  refine V_cv1 (pc := 2) dX4_beyondRoad_2 kX4_72 (LandAt_k ho) (by decide) (Nat.le_of_ble_eq_true rfl) (s_roadStart ho hL (by omega)) rfl ?_
  refine V_iloadn (pc := 5) dX4_beyondRoad_5 rfl ?_
  refine V_icmp_ne (pc := 6) (tgt := 17) dX4_beyondRoad_6 (by decide) (by omega) (by omega) (fun h6 => ?_) (fun h6 => ?_)
  · refine V_aloadn (pc := 17) dX4_beyondRoad_17 rfl ?_
    refine V_iloadn (pc := 18) dX4_beyondRoad_18 rfl ?_
    refine V_cv1 (pc := 19) dX4_beyondRoad_19 kX4_72 (LandAt_k ho) (by decide) (Nat.le_of_ble_eq_true rfl) (s_roadStart ho hL (by omega)) rfl ?_
    refine V_iret hX dX4_beyondRoad_22 rfl ?_
    exact ⟨congrArg vi (by unfold gBy; first | (exfalso; omega) | rw [if_pos (by omega)] | rw [if_neg (by omega)]), rfl⟩
  · refine V_aloadn (pc := 9) dX4_beyondRoad_9 rfl ?_
    refine V_iloadn (pc := 10) dX4_beyondRoad_10 rfl ?_
    refine V_cv1 (pc := 11) dX4_beyondRoad_11 kX4_76 (LandAt_k ho) (by decide) (Nat.le_of_ble_eq_true rfl) (s_roadEnd ho hL (by omega)) rfl ?_
    refine V_goto (pc := 14) (tgt := 22) dX4_beyondRoad_14 (by decide) ?_
    refine V_iret hX dX4_beyondRoad_22 rfl ?_
    exact ⟨congrArg vi (by unfold gBy; first | (exfalso; omega) | rw [if_pos (by omega)] | rw [if_neg (by omega)]), rfl⟩


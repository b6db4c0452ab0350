set_option maxRecDepth 20000 in
theorem t_fault {μ : Mem} : SP mX11_fault [vr 0] μ (fun w m => w = vi (μ 64 4) ∧ m = μ) := by
  refine SP_intro (ls := [vr 0]) (by decide +kernel) rfl rfl (Nat.le_of_ble_eq_true rfl) rfl (fun X hX => ?_)
  refine V_aloadn (pc := 0) dX11_fault_0 rfl ?_
  refine V_getr (pc := 1) dX11_fault_1 fX11_31 zk_0 zr_0_3 ?_
  refine V_cv0 (pc := 4) dX11_fault_4 kX11_137 zk_64 (by decide) (Nat.le_of_ble_eq_true rfl) (s_faultByte) rfl ?_
  refine V_iret hX dX11_fault_7 rfl ?_
  exact ⟨rfl, rfl⟩

/-- with these arguments class and reference answer alike, and the relation holds behind both -/
def Agr (Mx Mm : MD) (As : List AV) (μ : Mem) : Prop := ∃ (v : Int) (Q1 : AV → Mem → Prop), SP Mx (vr 0 :: As) μ Q1 ∧ ∀ w m, Q1 w m → w = vi v ∧ ∃ Q2 : AV → Mem → Prop, SP Mm (vr 256 :: As) m Q2 ∧ ∀ w2 m2, Q2 w2 m2 → w2 = vi v ∧ REL m2
theorem cost_sc {μ ν : Mem} (h : SC μ ν) (s : Int) : cost ν s = cost μ s := cost_ag h.ag s
theorem cTold_sc {μ ν : Mem} (h : SC μ ν) (u : Int) : cTold ν u = cTold μ u := by
  unfold cTold
  rw [h.c 32 (by decide), h.c 16 (by decide), h.c 144 (by decide), h.c 160 (by decide), cost_sc h, sb_cg (f := fun p => ¬ pT ν 80 p = 0) (g := fun p => ¬ pT μ 80 p = 0) _ _ _ (fun k _ _ => by rw [pT_ag h.ag])]
theorem cWalk_sc {μ ν : Mem} (h : SC μ ν) (a t u : Int) : cWalk ν a t u = cWalk μ a t u := by unfold cWalk; rw [h.c 32 (by decide), wkF_ag h.ag]
theorem cWay_sc {μ ν : Mem} (h : SC μ ν) (a t u : Int) : cWay ν a t u = cWay μ a t u := by unfold cWay; rw [h.c 32 (by decide), wkF_ag h.ag]
theorem fwr_sc {μ ν : Mem} (h : SC μ ν) : ∀ (n : Nat) (k : Int), fwr ν n k = fwr μ n k := by
  intro n
  induction n with
  | zero => intros; rfl
  | succ n ih => intro k; rw [fwr_s, fwr_s, ih, h.c 161 (by decide), h.c 162 (by decide), h.c 163 (by decide), h.c 164 (by decide), wkF_ag h.ag]
theorem bst_sc {μ ν : Mem} (h : SC μ ν) : ∀ (n : Nat) (p a b : Int), bst ν n p a b = bst μ n p a b := by
  intro n
  induction n with
  | zero => intros; rfl
  | succ n ih => intro p a b; rw [bst_s, bst_s, ih, ih, cost_sc h]
theorem cBest_sc {μ ν : Mem} (h : SC μ ν) (u : Int) : cBest ν u = cBest μ u := by unfold cBest; rw [h.c 32 (by decide), bst_sc h]
theorem cOdds_sc {μ ν : Mem} (h : SC μ ν) (a t o : Int) : (cOdds ν a t o).1 = (cOdds μ a t o).1 := by
  unfold cOdds
  rw [h.c 32 (by decide), shT_ag h.ag]
  split
  · split <;> rfl
  · rfl
theorem cOdds_m {μ : Mem} (a t o : Int) : SC μ (cOdds μ a t o).2 := by
  unfold cOdds
  split
  · split
    · show SC μ (mu (mu μ 128 2 t) 128 3 o)
      refine ⟨fun k _ _ _ d _ _ _ _ => (mu_ne d).trans (mu_ne d), fun j _ _ => by rw [mu_c (by decide), mu_c (by decide)]⟩
    · exact SC.rf μ
  · exact SC.rf μ

theorem a_road {μ : Mem} (H : REL μ) {r : Int} (hr : inR r) {u : Int} (hu : inR u) : Agr mX11_road mX12_road [vi r, vi u] μ := by
  refine ⟨cRoad μ r u, _, t_road H.ci hr hu, ?_⟩
  rintro w m ⟨rfl, rfl⟩
  refine ⟨rfl, _, r_road H.gi hr hu, ?_⟩
  rintro w m ⟨rfl, rfl⟩
  exact ⟨rfl, H⟩

theorem a_far {μ : Mem} (H : REL μ) {a : Int} (ha : inR a) {b : Int} (hb : inR b) : Agr mX11_far mX12_far [vi a, vi b] μ := by
  refine ⟨cFar μ a b, _, t_far H.ci ha hb, ?_⟩
  rintro w m ⟨rfl, rfl⟩
  refine ⟨rfl, _, r_far H.gi ha hb, ?_⟩
  rintro w m ⟨rfl, rfl⟩
  exact ⟨rfl, H⟩

theorem a_post {μ : Mem} (H : REL μ) {p : Int} (hp : inR p) {u : Int} (hu : inR u) : Agr mX11_post mX12_post [vi p, vi u] μ := by
  refine ⟨cPost μ p u, _, t_post H.ci hp hu, ?_⟩
  rintro w m ⟨rfl, rfl⟩
  refine ⟨rfl, _, r_post H.gi hp hu, ?_⟩
  rintro w m ⟨rfl, rfl⟩
  exact ⟨rfl, H⟩

theorem a_arm {μ : Mem} (H : REL μ) {p : Int} (hp : inR p) {i : Int} (hi : inR i) {u : Int} (hu : inR u) : Agr mX11_arm mX12_arm [vi p, vi i, vi u] μ := by
  refine ⟨cArm μ p i u, _, t_arm H.ci hp hi hu, ?_⟩
  rintro w m ⟨rfl, rfl⟩
  refine ⟨rfl, _, r_arm H.gi hp hi hu, ?_⟩
  rintro w m ⟨rfl, rfl⟩
  exact ⟨rfl, H⟩

theorem a_miles {μ : Mem} (H : REL μ) {p : Int} (hp : inR p) {t : Int} (ht : inR t) : Agr mX11_miles mX12_miles [vi p, vi t] μ := by
  refine ⟨cMiles μ p t, _, t_miles H.ci hp ht, ?_⟩
  rintro w m ⟨rfl, rfl⟩
  refine ⟨rfl, _, r_miles H.gi hp ht, ?_⟩
  rintro w m ⟨rfl, rfl⟩
  exact ⟨rfl, H⟩

theorem a_fault {μ : Mem} (H : REL μ) : Agr mX11_fault mX12_fault [] μ := by
  refine ⟨μ 64 4, _, t_fault, ?_⟩
  rintro w m ⟨rfl, rfl⟩
  refine ⟨rfl, _, r_fault, ?_⟩
  rintro w m ⟨rfl, rfl⟩
  exact ⟨by rw [H.2.2.2.2.2.2.1], H⟩
theorem a_quarrel {μ : Mem} (H : REL μ) {b : Int} (hb : b = 0 ∨ b = 1) : Agr mX11_quarrel mX12_quarrel [vi b] μ := by
  refine ⟨qO μ b (μ 32 0).toNat 0, _, t_quarrel H.ci hb, ?_⟩
  rintro w m ⟨rfl, rfl⟩
  refine ⟨rfl, _, r_quarrel H.gi H.mt H.self hb, ?_⟩
  rintro w m ⟨rfl, rfl⟩
  exact ⟨rfl, H⟩

theorem a_told {μ : Mem} (H : REL μ) {u : Int} (hu : inR u) : Agr mX11_told mX12_told [vi u] μ := by
  refine ⟨cTold μ u, _, t_told H.ci hu, ?_⟩
  rintro w m ⟨rfl, hm⟩
  have hs : SC μ m := hm.sc
  have G := REL_sc hs H
  refine ⟨rfl, _, r_told G.gw G.2.2.2.2.2.1.2.2.2.1 G.2.2.2.1.1.1 G.2.2.2.2.1.1.1 hu, ?_⟩
  rintro w2 m2 ⟨rfl, hm2⟩
  exact ⟨congrArg vi (cTold_sc hs _), REL_sc hm2.sc G⟩

theorem a_walk {μ : Mem} (H : REL μ) {a : Int} (ha : inR a) {t : Int} (ht : inR t) {u : Int} (hu : inR u) : Agr mX11_walk mX12_walk [vi a, vi t, vi u] μ := by
  refine ⟨cWalk μ a t u, _, t_walk H.ci ha ht hu, ?_⟩
  rintro w m ⟨rfl, hm⟩
  have hs : SC μ m := hm.sc
  have G := REL_sc hs H
  refine ⟨rfl, _, r_walk G.gi G.1.ln G.gw.2.2.1 ha ht hu, ?_⟩
  rintro w2 m2 ⟨rfl, hm2⟩
  exact ⟨congrArg vi (cWalk_sc hs _ _ _), REL_sc hm2.sc G⟩

theorem a_way {μ : Mem} (H : REL μ) {a : Int} (ha : inR a) {t : Int} (ht : inR t) {i : Int} (hi : inR i) : Agr mX11_way mX12_way [vi a, vi t, vi i] μ := by
  refine ⟨cWay μ a t i, _, t_way H.ci ha ht hi, ?_⟩
  rintro w m ⟨rfl, hm⟩
  have hs : SC μ m := hm.sc
  have G := REL_sc hs H
  refine ⟨rfl, _, r_way G.gi G.1.ln G.gw.2.2.1 ha ht hi, ?_⟩
  rintro w2 m2 ⟨rfl, hm2⟩
  exact ⟨congrArg vi (cWay_sc hs _ _ _), REL_sc hm2.sc G⟩

theorem a_judge {μ : Mem} (H : REL μ)  : Agr mX11_judge mX12_judge [] μ := by
  refine ⟨fwr μ (μ 160 4).toNat 0, _, t_judge H.ci, ?_⟩
  rintro w m ⟨rfl, hm⟩
  have hs : SC μ m := hm.sc
  have G := REL_sc hs H
  refine ⟨rfl, _, r_judge G.gw G.2.2.2.2.1.1, ?_⟩
  rintro w2 m2 ⟨rfl, hm2⟩
  exact ⟨congrArg vi (by rw [fwr_sc hs, hs.c 160 (by decide)]), REL_sc hm2.sc G⟩

theorem a_best {μ : Mem} (H : REL μ) {u : Int} (hu : inR u) : Agr mX11_best mX12_best [vi u] μ := by
  refine ⟨cBest μ u, _, t_best H.ci H.co hu, ?_⟩
  rintro w m ⟨rfl, hm⟩
  have hs : SC μ m := hm.sc
  have G := REL_sc hs H
  refine ⟨rfl, _, r_best G.gw G.co hu, ?_⟩
  rintro w2 m2 ⟨rfl, hm2⟩
  exact ⟨congrArg vi (cBest_sc hs _), REL_sc hm2.sc G⟩

theorem a_odds {μ : Mem} (H : REL μ) {a : Int} (ha : inR a) {t : Int} (ht : inR t) {o : Int} (ho : inR o) : Agr mX11_odds mX12_odds [vi a, vi t, vi o] μ := by
  refine ⟨(cOdds μ a t o).1, _, t_odds H.ci ha ht ho, ?_⟩
  rintro w m ⟨rfl, hm⟩
  have hs : SC μ m := by rw [hm]; exact cOdds_m _ _ _
  have G := REL_sc hs H
  refine ⟨rfl, _, r_odds G.gi G.2.1.2.1 ha ht ho, ?_⟩
  rintro w2 m2 ⟨rfl, hm2⟩
  exact ⟨congrArg vi (cOdds_sc hs _ _ _), REL_sc hm2.sc G⟩

theorem pv_v {v : AV} {st : List AV} (hv : isU v = false) : pv v st = v :: st := by simp [pv, hv]
def CN (own : String) (idx : Nat) (Y : MD) (n : Nat) : Prop := ((Cond.methodLinkNest own idx Y.2.2.1 RX11 = nw1 ∨ Cond.methodLinkNest own idx Y.2.2.1 RX11 = nw2 ∨ Cond.methodLinkNest own idx Y.2.2.1 RX11 = nw3) ∧ Cond.static Y.2.2.1 ∈ TB ∧ Cond.initialized Y.2.2.1.cls ∈ TB ∧ Cond.code Y.2.2.1 Y.1 Y.2.2.2.1 Y.2.2.2.2.1 ∈ TB) ∧
  (Y.2.2.1.cls ≠ "java/lang/invoke/MethodHandle" ∧ Y.2.2.1.cls ≠ "java/lang/invoke/VarHandle" ∧ (parseMethodDescriptor Y.2.2.1.desc).map (fun d => d.parameters.length) = some n) ∧ Y.2.2.2.1 ≤ 45

theorem V_callN {X : ZX} {M : MD} {pc : Nat} {ls st : List AV} {μ : Mem} {idx : Nat} {As : List AV} {Y : MD} {Qc : AV → Mem → Prop} (hd : decode M.1 pc = .ok (.invokestatic idx, 3)) (hc : CN M.2.1 idx Y As.length) (hdd : Y.2.2.2.2.2 < M.2.2.2.2.2) (hst : (st.map (fun v => if isL v then 2 else 1)).sum ≤ 8) (sp : SP Y As μ Qc) (kk : ∀ v μ', Qc v μ' → V X M (pc + 3) ls (pv v st) μ') : V X M pc ls (As.reverse ++ st) μ := by
  obtain ⟨⟨l, dC, dI, ad, ac, sK, sV⟩, p, e, R, s, m, args, below, meth, c, A, cells, slots, Fin⟩ := X
  obtain ⟨cc, own, y, nL, ret, d⟩ := M
  intro C H locs la hP hS hl
  refine V_behind (stA := As.reverse ++ st) kk C H locs la (As.map (cv ad sK)).toArray hS hl ?_
  obtain ⟨hx, hb, hr, hlk, hml, hown, hts, hK, hD, hSX, hc1, hc2, hd1, hd2⟩ := C
  obtain ⟨ccY, ownY, yY, nLY, retY, dY⟩ := Y
  obtain ⟨⟨c1, c2, c4, c5⟩, c7, c8⟩ := hc
  dsimp only at hdd c8 c1
  have hnw : va_Nw (.methodLinkNest own idx yY RX11) s := by
    rcases c1 with h | h | h
    · rw [h]; exact hSX.2.2.2.1
    · rw [h]; exact hSX.2.2.2.2.1
    · rw [h]; exact hSX.2.2.2.2.2.1
  refine va_runSN (As := As.map (cv ad sK)) (rest := st.map (cv ad sK)) (n := As.length) (ws := Cond.code yY ccY nLY retY :: TB) (rm := zrm dY) (bytes := ccY) (maxL := nLY) (ret := retY) (Ts := TB) (own := own) (host := RX11) ⟨hx, hb, hml, hown, hts⟩ (sp l dC dI ad ac sK sV)
    ⟨va_cnB As.length hts (tb_in (Y := ⟨ccY, ownY, yY, nLY, retY, dY⟩) c5) rfl rfl rfl hnw (hts _ c4) c7 ⟨?_, ?_⟩, hts _ c2, trivial⟩ ⟨Wd.blind, fun U hU hW => ⟨rfl, ?_, va_K.moved hW.alike hK, ⟨hD.1, fun k hk => ⟨k, hk, rfl⟩⟩, hSX.to hS hU hW (wA_sub hD)⟩⟩ rfl (by simp) hl.1 (by simp) (lv_room (by rw [map_cat]; exact hst)) hd ⟨hc1, hc2⟩
  · show dY + 1 ≤ R.frames
    omega
  · show 8 + (nLY + 11) + 64 * dY ≤ R.locals
    omega
  · rw [hU]; exact hP

theorem V_cv0 {X : ZX} {M : MD} {pc : Nat} {ls st : List AV} {μ : Mem} {k cN idx : Nat}  {Y : MD} {v : AV} {μ2 : Mem} (hd : decode M.1 pc = .ok (.invokevirtual idx, 3)) (hc : CV M.2.1 idx Y cN 0) (hk : zk k = .inl cN) (hdd : Y.2.2.2.2.2 < M.2.2.2.2.2) (hst : (st.map (fun v => if isL v then 2 else 1)).sum ≤ 8) (sp : SP Y (vr k :: []) μ (fun w m => w = v ∧ m = μ2)) (hv : isU v = false) (kk : V X M (pc + 3) ls (v :: st) μ2) : V X M pc ls (vr k :: st) μ :=
  V_callV (As := []) hd hc hk hdd hst sp (fun w m h => by obtain ⟨rfl, rfl⟩ := h; rw [pv_v hv]; exact kk)

theorem V_cu0 {X : ZX} {M : MD} {pc : Nat} {ls st : List AV} {μ : Mem} {k cN idx : Nat}  {Y : MD} {μ2 : Mem} (hd : decode M.1 pc = .ok (.invokevirtual idx, 3)) (hc : CV M.2.1 idx Y cN 0) (hk : zk k = .inl cN) (hdd : Y.2.2.2.2.2 < M.2.2.2.2.2) (hst : (st.map (fun v => if isL v then 2 else 1)).sum ≤ 8) (sp : SP Y (vr k :: []) μ (fun w m => w = un ∧ m = μ2)) (kk : V X M (pc + 3) ls st μ2) : V X M pc ls (vr k :: st) μ :=
  V_callV (As := []) hd hc hk hdd hst sp (fun w m h => by obtain ⟨rfl, rfl⟩ := h; exact kk)

theorem V_cq0 {X : ZX} {M : MD} {pc : Nat} {ls st : List AV} {μ : Mem} {k cN idx : Nat}  {Y : MD} {Qc : AV → Mem → Prop} (hd : decode M.1 pc = .ok (.invokevirtual idx, 3)) (hc : CV M.2.1 idx Y cN 0) (hk : zk k = .inl cN) (hdd : Y.2.2.2.2.2 < M.2.2.2.2.2) (hst : (st.map (fun v => if isL v then 2 else 1)).sum ≤ 8) (sp : SP Y (vr k :: []) μ Qc) (kk : ∀ v μ', Qc v μ' → V X M (pc + 3) ls (pv v st) μ') : V X M pc ls (vr k :: st) μ :=
  V_callV (As := []) hd hc hk hdd hst sp kk

theorem V_cv1 {X : ZX} {M : MD} {pc : Nat} {ls st : List AV} {μ : Mem} {k cN idx : Nat} {a0 : AV} {Y : MD} {v : AV} {μ2 : Mem} (hd : decode M.1 pc = .ok (.invokevirtual idx, 3)) (hc : CV M.2.1 idx Y cN 1) (hk : zk k = .inl cN) (hdd : Y.2.2.2.2.2 < M.2.2.2.2.2) (hst : (st.map (fun v => if isL v then 2 else 1)).sum ≤ 8) (sp : SP Y (vr k :: [a0]) μ (fun w m => w = v ∧ m = μ2)) (hv : isU v = false) (kk : V X M (pc + 3) ls (v :: st) μ2) : V X M pc ls (a0 :: vr k :: st) μ :=
  V_callV (As := [a0]) hd hc hk hdd hst sp (fun w m h => by obtain ⟨rfl, rfl⟩ := h; rw [pv_v hv]; exact kk)

theorem V_cu1 {X : ZX} {M : MD} {pc : Nat} {ls st : List AV} {μ : Mem} {k cN idx : Nat} {a0 : AV} {Y : MD} {μ2 : Mem} (hd : decode M.1 pc = .ok (.invokevirtual idx, 3)) (hc : CV M.2.1 idx Y cN 1) (hk : zk k = .inl cN) (hdd : Y.2.2.2.2.2 < M.2.2.2.2.2) (hst : (st.map (fun v => if isL v then 2 else 1)).sum ≤ 8) (sp : SP Y (vr k :: [a0]) μ (fun w m => w = un ∧ m = μ2)) (kk : V X M (pc + 3) ls st μ2) : V X M pc ls (a0 :: vr k :: st) μ :=
  V_callV (As := [a0]) hd hc hk hdd hst sp (fun w m h => by obtain ⟨rfl, rfl⟩ := h; exact kk)

theorem V_cq1 {X : ZX} {M : MD} {pc : Nat} {ls st : List AV} {μ : Mem} {k cN idx : Nat} {a0 : AV} {Y : MD} {Qc : AV → Mem → Prop} (hd : decode M.1 pc = .ok (.invokevirtual idx, 3)) (hc : CV M.2.1 idx Y cN 1) (hk : zk k = .inl cN) (hdd : Y.2.2.2.2.2 < M.2.2.2.2.2) (hst : (st.map (fun v => if isL v then 2 else 1)).sum ≤ 8) (sp : SP Y (vr k :: [a0]) μ Qc) (kk : ∀ v μ', Qc v μ' → V X M (pc + 3) ls (pv v st) μ') : V X M pc ls (a0 :: vr k :: st) μ :=
  V_callV (As := [a0]) hd hc hk hdd hst sp kk

theorem V_cs1 {X : ZX} {M : MD} {pc : Nat} {ls st : List AV} {μ : Mem} {idx : Nat} {a0 : AV} {Y : MD} {v : AV} {μ2 : Mem} (hd : decode M.1 pc = .ok (.invokestatic idx, 3)) (hc : CS M.2.1 idx Y 1) (hdd : Y.2.2.2.2.2 < M.2.2.2.2.2) (hst : (st.map (fun v => if isL v then 2 else 1)).sum ≤ 8) (sp : SP Y [a0] μ (fun w m => w = v ∧ m = μ2)) (hv : isU v = false) (kk : V X M (pc + 3) ls (v :: st) μ2) : V X M pc ls (a0 :: st) μ :=
  V_callS (As := [a0]) hd hc hdd hst sp (fun w m h => by obtain ⟨rfl, rfl⟩ := h; rw [pv_v hv]; exact kk)

theorem V_cn1 {X : ZX} {M : MD} {pc : Nat} {ls st : List AV} {μ : Mem} {idx : Nat} {a0 : AV} {Y : MD} {v : AV} {μ2 : Mem} (hd : decode M.1 pc = .ok (.invokestatic idx, 3)) (hc : CN M.2.1 idx Y 1) (hdd : Y.2.2.2.2.2 < M.2.2.2.2.2) (hst : (st.map (fun v => if isL v then 2 else 1)).sum ≤ 8) (sp : SP Y [a0] μ (fun w m => w = v ∧ m = μ2)) (hv : isU v = false) (kk : V X M (pc + 3) ls (v :: st) μ2) : V X M pc ls (a0 :: st) μ :=
  V_callN (As := [a0]) hd hc hdd hst sp (fun w m h => by obtain ⟨rfl, rfl⟩ := h; rw [pv_v hv]; exact kk)

theorem V_cv2 {X : ZX} {M : MD} {pc : Nat} {ls st : List AV} {μ : Mem} {k cN idx : Nat} {a0 a1 : AV} {Y : MD} {v : AV} {μ2 : Mem} (hd : decode M.1 pc = .ok (.invokevirtual idx, 3)) (hc : CV M.2.1 idx Y cN 2) (hk : zk k = .inl cN) (hdd : Y.2.2.2.2.2 < M.2.2.2.2.2) (hst : (st.map (fun v => if isL v then 2 else 1)).sum ≤ 8) (sp : SP Y (vr k :: [a0, a1]) μ (fun w m => w = v ∧ m = μ2)) (hv : isU v = false) (kk : V X M (pc + 3) ls (v :: st) μ2) : V X M pc ls (a1 :: a0 :: vr k :: st) μ :=
  V_callV (As := [a0, a1]) hd hc hk hdd hst sp (fun w m h => by obtain ⟨rfl, rfl⟩ := h; rw [pv_v hv]; exact kk)

theorem V_cu2 {X : ZX} {M : MD} {pc : Nat} {ls st : List AV} {μ : Mem} {k cN idx : Nat} {a0 a1 : AV} {Y : MD} {μ2 : Mem} (hd : decode M.1 pc = .ok (.invokevirtual idx, 3)) (hc : CV M.2.1 idx Y cN 2) (hk : zk k = .inl cN) (hdd : Y.2.2.2.2.2 < M.2.2.2.2.2) (hst : (st.map (fun v => if isL v then 2 else 1)).sum ≤ 8) (sp : SP Y (vr k :: [a0, a1]) μ (fun w m => w = un ∧ m = μ2)) (kk : V X M (pc + 3) ls st μ2) : V X M pc ls (a1 :: a0 :: vr k :: st) μ :=
  V_callV (As := [a0, a1]) hd hc hk hdd hst sp (fun w m h => by obtain ⟨rfl, rfl⟩ := h; exact kk)

theorem V_cq2 {X : ZX} {M : MD} {pc : Nat} {ls st : List AV} {μ : Mem} {k cN idx : Nat} {a0 a1 : AV} {Y : MD} {Qc : AV → Mem → Prop} (hd : decode M.1 pc = .ok (.invokevirtual idx, 3)) (hc : CV M.2.1 idx Y cN 2) (hk : zk k = .inl cN) (hdd : Y.2.2.2.2.2 < M.2.2.2.2.2) (hst : (st.map (fun v => if isL v then 2 else 1)).sum ≤ 8) (sp : SP Y (vr k :: [a0, a1]) μ Qc) (kk : ∀ v μ', Qc v μ' → V X M (pc + 3) ls (pv v st) μ') : V X M pc ls (a1 :: a0 :: vr k :: st) μ :=
  V_callV (As := [a0, a1]) hd hc hk hdd hst sp kk

theorem V_cs2 {X : ZX} {M : MD} {pc : Nat} {ls st : List AV} {μ : Mem} {idx : Nat} {a0 a1 : AV} {Y : MD} {v : AV} {μ2 : Mem} (hd : decode M.1 pc = .ok (.invokestatic idx, 3)) (hc : CS M.2.1 idx Y 2) (hdd : Y.2.2.2.2.2 < M.2.2.2.2.2) (hst : (st.map (fun v => if isL v then 2 else 1)).sum ≤ 8) (sp : SP Y [a0, a1] μ (fun w m => w = v ∧ m = μ2)) (hv : isU v = false) (kk : V X M (pc + 3) ls (v :: st) μ2) : V X M pc ls (a1 :: a0 :: st) μ :=
  V_callS (As := [a0, a1]) hd hc hdd hst sp (fun w m h => by obtain ⟨rfl, rfl⟩ := h; rw [pv_v hv]; exact kk)

theorem V_cn2 {X : ZX} {M : MD} {pc : Nat} {ls st : List AV} {μ : Mem} {idx : Nat} {a0 a1 : AV} {Y : MD} {v : AV} {μ2 : Mem} (hd : decode M.1 pc = .ok (.invokestatic idx, 3)) (hc : CN M.2.1 idx Y 2) (hdd : Y.2.2.2.2.2 < M.2.2.2.2.2) (hst : (st.map (fun v => if isL v then 2 else 1)).sum ≤ 8) (sp : SP Y [a0, a1] μ (fun w m => w = v ∧ m = μ2)) (hv : isU v = false) (kk : V X M (pc + 3) ls (v :: st) μ2) : V X M pc ls (a1 :: a0 :: st) μ :=
  V_callN (As := [a0, a1]) hd hc hdd hst sp (fun w m h => by obtain ⟨rfl, rfl⟩ := h; rw [pv_v hv]; exact kk)

theorem V_cv3 {X : ZX} {M : MD} {pc : Nat} {ls st : List AV} {μ : Mem} {k cN idx : Nat} {a0 a1 a2 : AV} {Y : MD} {v : AV} {μ2 : Mem} (hd : decode M.1 pc = .ok (.invokevirtual idx, 3)) (hc : CV M.2.1 idx Y cN 3) (hk : zk k = .inl cN) (hdd : Y.2.2.2.2.2 < M.2.2.2.2.2) (hst : (st.map (fun v => if isL v then 2 else 1)).sum ≤ 8) (sp : SP Y (vr k :: [a0, a1, a2]) μ (fun w m => w = v ∧ m = μ2)) (hv : isU v = false) (kk : V X M (pc + 3) ls (v :: st) μ2) : V X M pc ls (a2 :: a1 :: a0 :: vr k :: st) μ :=
  V_callV (As := [a0, a1, a2]) hd hc hk hdd hst sp (fun w m h => by obtain ⟨rfl, rfl⟩ := h; rw [pv_v hv]; exact kk)

theorem V_cu3 {X : ZX} {M : MD} {pc : Nat} {ls st : List AV} {μ : Mem} {k cN idx : Nat} {a0 a1 a2 : AV} {Y : MD} {μ2 : Mem} (hd : decode M.1 pc = .ok (.invokevirtual idx, 3)) (hc : CV M.2.1 idx Y cN 3) (hk : zk k = .inl cN) (hdd : Y.2.2.2.2.2 < M.2.2.2.2.2) (hst : (st.map (fun v => if isL v then 2 else 1)).sum ≤ 8) (sp : SP Y (vr k :: [a0, a1, a2]) μ (fun w m => w = un ∧ m = μ2)) (kk : V X M (pc + 3) ls st μ2) : V X M pc ls (a2 :: a1 :: a0 :: vr k :: st) μ :=
  V_callV (As := [a0, a1, a2]) hd hc hk hdd hst sp (fun w m h => by obtain ⟨rfl, rfl⟩ := h; exact kk)

theorem V_cq3 {X : ZX} {M : MD} {pc : Nat} {ls st : List AV} {μ : Mem} {k cN idx : Nat} {a0 a1 a2 : AV} {Y : MD} {Qc : AV → Mem → Prop} (hd : decode M.1 pc = .ok (.invokevirtual idx, 3)) (hc : CV M.2.1 idx Y cN 3) (hk : zk k = .inl cN) (hdd : Y.2.2.2.2.2 < M.2.2.2.2.2) (hst : (st.map (fun v => if isL v then 2 else 1)).sum ≤ 8) (sp : SP Y (vr k :: [a0, a1, a2]) μ Qc) (kk : ∀ v μ', Qc v μ' → V X M (pc + 3) ls (pv v st) μ') : V X M pc ls (a2 :: a1 :: a0 :: vr k :: st) μ :=
  V_callV (As := [a0, a1, a2]) hd hc hk hdd hst sp kk

theorem V_cs3 {X : ZX} {M : MD} {pc : Nat} {ls st : List AV} {μ : Mem} {idx : Nat} {a0 a1 a2 : AV} {Y : MD} {v : AV} {μ2 : Mem} (hd : decode M.1 pc = .ok (.invokestatic idx, 3)) (hc : CS M.2.1 idx Y 3) (hdd : Y.2.2.2.2.2 < M.2.2.2.2.2) (hst : (st.map (fun v => if isL v then 2 else 1)).sum ≤ 8) (sp : SP Y [a0, a1, a2] μ (fun w m => w = v ∧ m = μ2)) (hv : isU v = false) (kk : V X M (pc + 3) ls (v :: st) μ2) : V X M pc ls (a2 :: a1 :: a0 :: st) μ :=
  V_callS (As := [a0, a1, a2]) hd hc hdd hst sp (fun w m h => by obtain ⟨rfl, rfl⟩ := h; rw [pv_v hv]; exact kk)

theorem V_cn3 {X : ZX} {M : MD} {pc : Nat} {ls st : List AV} {μ : Mem} {idx : Nat} {a0 a1 a2 : AV} {Y : MD} {v : AV} {μ2 : Mem} (hd : decode M.1 pc = .ok (.invokestatic idx, 3)) (hc : CN M.2.1 idx Y 3) (hdd : Y.2.2.2.2.2 < M.2.2.2.2.2) (hst : (st.map (fun v => if isL v then 2 else 1)).sum ≤ 8) (sp : SP Y [a0, a1, a2] μ (fun w m => w = v ∧ m = μ2)) (hv : isU v = false) (kk : V X M (pc + 3) ls (v :: st) μ2) : V X M pc ls (a2 :: a1 :: a0 :: st) μ :=
  V_callN (As := [a0, a1, a2]) hd hc hdd hst sp (fun w m h => by obtain ⟨rfl, rfl⟩ := h; rw [pv_v hv]; exact kk)

theorem V_cv4 {X : ZX} {M : MD} {pc : Nat} {ls st : List AV} {μ : Mem} {k cN idx : Nat} {a0 a1 a2 a3 : AV} {Y : MD} {v : AV} {μ2 : Mem} (hd : decode M.1 pc = .ok (.invokevirtual idx, 3)) (hc : CV M.2.1 idx Y cN 4) (hk : zk k = .inl cN) (hdd : Y.2.2.2.2.2 < M.2.2.2.2.2) (hst : (st.map (fun v => if isL v then 2 else 1)).sum ≤ 8) (sp : SP Y (vr k :: [a0, a1, a2, a3]) μ (fun w m => w = v ∧ m = μ2)) (hv : isU v = false) (kk : V X M (pc + 3) ls (v :: st) μ2) : V X M pc ls (a3 :: a2 :: a1 :: a0 :: vr k :: st) μ :=
  V_callV (As := [a0, a1, a2, a3]) hd hc hk hdd hst sp (fun w m h => by obtain ⟨rfl, rfl⟩ := h; rw [pv_v hv]; exact kk)

theorem V_cu4 {X : ZX} {M : MD} {pc : Nat} {ls st : List AV} {μ : Mem} {k cN idx : Nat} {a0 a1 a2 a3 : AV} {Y : MD} {μ2 : Mem} (hd : decode M.1 pc = .ok (.invokevirtual idx, 3)) (hc : CV M.2.1 idx Y cN 4) (hk : zk k = .inl cN) (hdd : Y.2.2.2.2.2 < M.2.2.2.2.2) (hst : (st.map (fun v => if isL v then 2 else 1)).sum ≤ 8) (sp : SP Y (vr k :: [a0, a1, a2, a3]) μ (fun w m => w = un ∧ m = μ2)) (kk : V X M (pc + 3) ls st μ2) : V X M pc ls (a3 :: a2 :: a1 :: a0 :: vr k :: st) μ :=
  V_callV (As := [a0, a1, a2, a3]) hd hc hk hdd hst sp (fun w m h => by obtain ⟨rfl, rfl⟩ := h; exact kk)

theorem V_cq4 {X : ZX} {M : MD} {pc : Nat} {ls st : List AV} {μ : Mem} {k cN idx : Nat} {a0 a1 a2 a3 : AV} {Y : MD} {Qc : AV → Mem → Prop} (hd : decode M.1 pc = .ok (.invokevirtual idx, 3)) (hc : CV M.2.1 idx Y cN 4) (hk : zk k = .inl cN) (hdd : Y.2.2.2.2.2 < M.2.2.2.2.2) (hst : (st.map (fun v => if isL v then 2 else 1)).sum ≤ 8) (sp : SP Y (vr k :: [a0, a1, a2, a3]) μ Qc) (kk : ∀ v μ', Qc v μ' → V X M (pc + 3) ls (pv v st) μ') : V X M pc ls (a3 :: a2 :: a1 :: a0 :: vr k :: st) μ :=
  V_callV (As := [a0, a1, a2, a3]) hd hc hk hdd hst sp kk

theorem V_cs4 {X : ZX} {M : MD} {pc : Nat} {ls st : List AV} {μ : Mem} {idx : Nat} {a0 a1 a2 a3 : AV} {Y : MD} {v : AV} {μ2 : Mem} (hd : decode M.1 pc = .ok (.invokestatic idx, 3)) (hc : CS M.2.1 idx Y 4) (hdd : Y.2.2.2.2.2 < M.2.2.2.2.2) (hst : (st.map (fun v => if isL v then 2 else 1)).sum ≤ 8) (sp : SP Y [a0, a1, a2, a3] μ (fun w m => w = v ∧ m = μ2)) (hv : isU v = false) (kk : V X M (pc + 3) ls (v :: st) μ2) : V X M pc ls (a3 :: a2 :: a1 :: a0 :: st) μ :=
  V_callS (As := [a0, a1, a2, a3]) hd hc hdd hst sp (fun w m h => by obtain ⟨rfl, rfl⟩ := h; rw [pv_v hv]; exact kk)

theorem V_cn4 {X : ZX} {M : MD} {pc : Nat} {ls st : List AV} {μ : Mem} {idx : Nat} {a0 a1 a2 a3 : AV} {Y : MD} {v : AV} {μ2 : Mem} (hd : decode M.1 pc = .ok (.invokestatic idx, 3)) (hc : CN M.2.1 idx Y 4) (hdd : Y.2.2.2.2.2 < M.2.2.2.2.2) (hst : (st.map (fun v => if isL v then 2 else 1)).sum ≤ 8) (sp : SP Y [a0, a1, a2, a3] μ (fun w m => w = v ∧ m = μ2)) (hv : isU v = false) (kk : V X M (pc + 3) ls (v :: st) μ2) : V X M pc ls (a3 :: a2 :: a1 :: a0 :: st) μ :=
  V_callN (As := [a0, a1, a2, a3]) hd hc hdd hst sp (fun w m h => by obtain ⟨rfl, rfl⟩ := h; rw [pv_v hv]; exact kk)

theorem V_cv5 {X : ZX} {M : MD} {pc : Nat} {ls st : List AV} {μ : Mem} {k cN idx : Nat} {a0 a1 a2 a3 a4 : AV} {Y : MD} {v : AV} {μ2 : Mem} (hd : decode M.1 pc = .ok (.invokevirtual idx, 3)) (hc : CV M.2.1 idx Y cN 5) (hk : zk k = .inl cN) (hdd : Y.2.2.2.2.2 < M.2.2.2.2.2) (hst : (st.map (fun v => if isL v then 2 else 1)).sum ≤ 8) (sp : SP Y (vr k :: [a0, a1, a2, a3, a4]) μ (fun w m => w = v ∧ m = μ2)) (hv : isU v = false) (kk : V X M (pc + 3) ls (v :: st) μ2) : V X M pc ls (a4 :: a3 :: a2 :: a1 :: a0 :: vr k :: st) μ :=
  V_callV (As := [a0, a1, a2, a3, a4]) hd hc hk hdd hst sp (fun w m h => by obtain ⟨rfl, rfl⟩ := h; rw [pv_v hv]; exact kk)

theorem V_cu5 {X : ZX} {M : MD} {pc : Nat} {ls st : List AV} {μ : Mem} {k cN idx : Nat} {a0 a1 a2 a3 a4 : AV} {Y : MD} {μ2 : Mem} (hd : decode M.1 pc = .ok (.invokevirtual idx, 3)) (hc : CV M.2.1 idx Y cN 5) (hk : zk k = .inl cN) (hdd : Y.2.2.2.2.2 < M.2.2.2.2.2) (hst : (st.map (fun v => if isL v then 2 else 1)).sum ≤ 8) (sp : SP Y (vr k :: [a0, a1, a2, a3, a4]) μ (fun w m => w = un ∧ m = μ2)) (kk : V X M (pc + 3) ls st μ2) : V X M pc ls (a4 :: a3 :: a2 :: a1 :: a0 :: vr k :: st) μ :=
  V_callV (As := [a0, a1, a2, a3, a4]) hd hc hk hdd hst sp (fun w m h => by obtain ⟨rfl, rfl⟩ := h; exact kk)

theorem V_cq5 {X : ZX} {M : MD} {pc : Nat} {ls st : List AV} {μ : Mem} {k cN idx : Nat} {a0 a1 a2 a3 a4 : AV} {Y : MD} {Qc : AV → Mem → Prop} (hd : decode M.1 pc = .ok (.invokevirtual idx, 3)) (hc : CV M.2.1 idx Y cN 5) (hk : zk k = .inl cN) (hdd : Y.2.2.2.2.2 < M.2.2.2.2.2) (hst : (st.map (fun v => if isL v then 2 else 1)).sum ≤ 8) (sp : SP Y (vr k :: [a0, a1, a2, a3, a4]) μ Qc) (kk : ∀ v μ', Qc v μ' → V X M (pc + 3) ls (pv v st) μ') : V X M pc ls (a4 :: a3 :: a2 :: a1 :: a0 :: vr k :: st) μ :=
  V_callV (As := [a0, a1, a2, a3, a4]) hd hc hk hdd hst sp kk

theorem V_cs5 {X : ZX} {M : MD} {pc : Nat} {ls st : List AV} {μ : Mem} {idx : Nat} {a0 a1 a2 a3 a4 : AV} {Y : MD} {v : AV} {μ2 : Mem} (hd : decode M.1 pc = .ok (.invokestatic idx, 3)) (hc : CS M.2.1 idx Y 5) (hdd : Y.2.2.2.2.2 < M.2.2.2.2.2) (hst : (st.map (fun v => if isL v then 2 else 1)).sum ≤ 8) (sp : SP Y [a0, a1, a2, a3, a4] μ (fun w m => w = v ∧ m = μ2)) (hv : isU v = false) (kk : V X M (pc + 3) ls (v :: st) μ2) : V X M pc ls (a4 :: a3 :: a2 :: a1 :: a0 :: st) μ :=
  V_callS (As := [a0, a1, a2, a3, a4]) hd hc hdd hst sp (fun w m h => by obtain ⟨rfl, rfl⟩ := h; rw [pv_v hv]; exact kk)

theorem V_cn5 {X : ZX} {M : MD} {pc : Nat} {ls st : List AV} {μ : Mem} {idx : Nat} {a0 a1 a2 a3 a4 : AV} {Y : MD} {v : AV} {μ2 : Mem} (hd : decode M.1 pc = .ok (.invokestatic idx, 3)) (hc : CN M.2.1 idx Y 5) (hdd : Y.2.2.2.2.2 < M.2.2.2.2.2) (hst : (st.map (fun v => if isL v then 2 else 1)).sum ≤ 8) (sp : SP Y [a0, a1, a2, a3, a4] μ (fun w m => w = v ∧ m = μ2)) (hv : isU v = false) (kk : V X M (pc + 3) ls (v :: st) μ2) : V X M pc ls (a4 :: a3 :: a2 :: a1 :: a0 :: st) μ :=
  V_callN (As := [a0, a1, a2, a3, a4]) hd hc hdd hst sp (fun w m h => by obtain ⟨rfl, rfl⟩ := h; rw [pv_v hv]; exact kk)

/-- whole arrays of ints copied -/
def CY (own : String) (idx : Nat) : Prop := Cond.methodLink own idx arraycopyName ∈ TB
theorem cy_words : Cond.native arraycopyName ∈ TB ∧ Cond.static arraycopyName ∈ TB ∧ Cond.initialized "java/lang/System" ∈ TB := ⟨by decide +kernel, by decide +kernel, by decide +kernel⟩

theorem V_copy {X : ZX} {M : MD} {pc : Nat} {ls st : List AV} {μ : Mem} {k k2 n idx : Nat} {z : Int} (hd : decode M.1 pc = .ok (.invokestatic idx, 3)) (hc : CY M.2.1 idx) (hk : zk k = .inr (0, n)) (hk2 : zk k2 = .inr (0, n)) (hz : z = n) (hm : n ≤ 1000000) (hne : k ≠ k2) (hd0 : 1 ≤ M.2.2.2.2.2) (hst : (st.map (fun v => if isL v then 2 else 1)).sum ≤ 8) (kk : V X M (pc + 3) ls st (mw μ k2 (fun i => if i < n then μ k i else μ k2 i))) : V X M pc ls (vi z :: vi 0 :: vr k2 :: vi 0 :: vr k :: st) μ := by
  obtain ⟨⟨l, dC, dI, ad, ac, sK, sV⟩, p, e, R, s, m, args, below, meth, c, A, cells, slots, Fin⟩ := X
  obtain ⟨cc, own, y, nL, ret, d⟩ := M
  intro C H locs la hP hS hl
  have kk := fun H1 locs1 h1 h2 => kk C H1 locs1 la h1 h2 hl
  obtain ⟨hx, hb, hr, hlk, hml, hown, hts, hK, hD, hSX, hc1, hc2, hd1, hd2⟩ := C
  obtain ⟨q, hq, hw⟩ := zw_at (ad := ad) (ac := ac) μ (zk_mem hk (fun h => by cases h))
  obtain ⟨q2, hq2, hw2⟩ := zw_at (ad := ad) (ac := ac) μ (zk_mem hk2 (fun h => by cases h))
  rw [zc_arr hk (by decide)] at hw
  rw [zc_arr hk2 (by decide)] at hw2
  subst hz
  have hR : inR (n : Int) := ⟨by omega, by omega⟩
  have e0 : (Int32.ofInt 0).toNatClampNeg = 0 := by decide
  have en : (Int32.ofInt (n : Int)).toNatClampNeg = n := by
    show (Int32.ofInt (n : Int)).toInt.toNat = n
    rw [zi_to hR]; rfl
  have hneg : ¬ Int32.ofInt 0 < 0 := by decide
  have hd0' : 1 ≤ d := hd0
  refine va_copyi (sp := Int32.ofInt 0) (dp := Int32.ofInt 0) (n := Int32.ofInt (n : Int)) hx hb (hml.trans hl.1.symm) hown (hts _ hc) (hts _ cy_words.1) (hts _ cy_words.2.1) (hts _ cy_words.2.2) hK hP hD.va hS q q2 0 0 hw hw2 rfl rfl rfl hneg hneg (by rw [zi_0, zi_lt hR inR_0]; omega) (by rw [e0, en]; omega) (by rw [e0, en]; omega) (fun i hi => rfl) (by omega) ?_ hd (fun H1 locs1 h1 _ h2 => ?_)
  · have e1 : nativeFrameWords "java/lang/System" "arraycopy" 5 + 11 ≤ 40 := by decide +kernel
    have e2 := map_cat ad sK st
    omega
  · refine kk H1 locs1 ?_ h2
    rw [← zw_set (ad := ad) (ac := ac) _ hq2, zc_arr hk2 (by decide)]
    rw [e0, en] at h1
    have e : va_cpy (fun i => Int32.ofInt (μ k i)) (fun i => Int32.ofInt (μ k2 i)) 0 0 n = fun i => Int32.ofInt (if i < n then μ k i else μ k2 i) := by
      funext i
      by_cases hi : i < n <;> simp [va_cpy, hi]
    rw [e] at h1
    exact h1

/-! the world: cells by number; objects by class, arrays by kind (0 int, 1 long, 2 boolean) and length -/
def zkL : List (Nat × (Nat ⊕ (Nat × Nat))) := [(0, .inl 11), (16, .inl 10), (17, .inr (0, 400)), (32, .inl 4), (36, .inr (0, 14)), (37, .inr (0, 14)), (38, .inr (0, 14)), (39, .inr (0, 20)), (40, .inr (0, 20)), (41, .inr (0, 20)), (42, .inr (0, 9)), (43, .inr (0, 45)), (44, .inr (0, 81)), (45, .inr (0, 81)), (48, .inl 4), (52, .inr (0, 14)), (53, .inr (0, 14)), (54, .inr (0, 14)), (55, .inr (0, 20)), (56, .inr (0, 20)), (57, .inr (0, 20)), (58, .inr (0, 9)), (59, .inr (0, 45)), (60, .inr (0, 81)), (61, .inr (0, 81)), (64, .inl 7), (80, .inl 6), (82, .inr (0, 9)), (83, .inr (0, 9)), (84, .inr (0, 81)), (96, .inl 9), (99, .inr (0, 10)), (112, .inl 1), (115, .inr (0, 9)), (128, .inl 5), (144, .inl 8), (146, .inr (0, 40)), (147, .inr (0, 40)), (148, .inr (0, 40)), (160, .inl 0), (161, .inr (0, 20)), (162, .inr (0, 20)), (163, .inr (0, 20)), (164, .inr (0, 20)), (176, .inl 2), (192, .inl 3), (208, .inl 6), (210, .inr (0, 9)), (211, .inr (0, 9)), (212, .inr (0, 81)), (224, .inl 3), (240, .inl 6), (242, .inr (0, 9)), (243, .inr (0, 9)), (244, .inr (0, 81)), (256, .inl 12), (259, .inr (0, 14)), (260, .inr (0, 14)), (261, .inr (0, 14)), (263, .inr (0, 20)), (264, .inr (0, 20)), (265, .inr (0, 20)), (266, .inr (0, 9)), (267, .inr (0, 45)), (268, .inr (0, 81)), (269, .inr (0, 81)), (270, .inr (0, 9)), (271, .inr (0, 9)), (272, .inr (0, 81)), (274, .inr (0, 400)), (284, .inr (0, 14)), (285, .inr (0, 14)), (286, .inr (0, 14)), (288, .inr (0, 20)), (289, .inr (0, 20)), (290, .inr (0, 20)), (296, .inr (0, 10)), (297, .inr (0, 10)), (299, .inr (0, 40)), (300, .inr (0, 40)), (301, .inr (0, 40)), (302, .inr (0, 64)), (303, .inr (0, 64)), (304, .inr (1, 64)), (307, .inr (0, 20)), (308, .inr (0, 20)), (309, .inr (0, 20)), (310, .inr (0, 20)), (311, .inr (0, 200)), (312, .inr (2, 2))]
def zrL : List (Nat × Nat) := [(0, 16), (1, 32), (2, 48), (3, 64), (4, 80), (5, 96), (6, 112), (7, 128), (8, 144), (9, 160), (10, 176), (11, 192), (12, 224), (4096, 16), (4097, 48), (5120, 32), (6144, 32), (6145, 80), (7168, 32), (7169, 96), (8192, 32), (8193, 80), (9216, 32), (12288, 208), (13312, 32), (14336, 240), (15360, 32)]
def zfL : List (List Nat) := [[3, 3, 3, 3, 0], [3, 3, 3], [0], [3, 0, 2], [0, 0, 0, 3, 3, 3, 3, 3, 3, 3, 3, 3, 3], [3, 3, 0, 0], [3, 3, 3, 3], [3, 3, 0, 0, 0], [3, 3, 3, 3, 0], [3, 3, 3, 0, 0, 0], [3, 0], [3, 3, 3, 3, 3, 3, 3, 3, 3, 3, 3, 3, 3], [0, 0, 3, 3, 3, 0, 3, 3, 3, 3, 3, 3, 3, 3, 3, 3, 0, 3, 0, 0, 0, 1, 0, 0, 0, 0, 0, 3, 3, 3, 0, 3, 3, 3, 0, 0, 0, 0, 0, 3, 3, 0, 3, 3, 3, 3, 3, 3, 0, 0, 3, 3, 3, 3, 3, 3]]
def ZL : List Nat := zkL.map Prod.fst
def zk (k : Nat) : Nat ⊕ (Nat × Nat) := (zkL.lookup k).getD (.inl 99)
def zr (k j : Nat) : Nat := (zrL.lookup (k * 64 + j)).getD (k + 1 + j)
def zf (c : Nat) : List Nat := zfL.getD c []
theorem ZL_nd : va_nd ZL = true := by decide +kernel
theorem zk_0 : zk 0 = .inl 11 := by decide +kernel
theorem zk_16 : zk 16 = .inl 10 := by decide +kernel
theorem zk_17 : zk 17 = .inr (0, 400) := by decide +kernel
theorem zk_32 : zk 32 = .inl 4 := by decide +kernel
theorem zk_36 : zk 36 = .inr (0, 14) := by decide +kernel
theorem zk_37 : zk 37 = .inr (0, 14) := by decide +kernel
theorem zk_38 : zk 38 = .inr (0, 14) := by decide +kernel
theorem zk_39 : zk 39 = .inr (0, 20) := by decide +kernel
theorem zk_40 : zk 40 = .inr (0, 20) := by decide +kernel
theorem zk_41 : zk 41 = .inr (0, 20) := by decide +kernel
theorem zk_42 : zk 42 = .inr (0, 9) := by decide +kernel
theorem zk_43 : zk 43 = .inr (0, 45) := by decide +kernel
theorem zk_44 : zk 44 = .inr (0, 81) := by decide +kernel
theorem zk_45 : zk 45 = .inr (0, 81) := by decide +kernel
theorem zk_48 : zk 48 = .inl 4 := by decide +kernel
theorem zk_52 : zk 52 = .inr (0, 14) := by decide +kernel
theorem zk_53 : zk 53 = .inr (0, 14) := by decide +kernel
theorem zk_54 : zk 54 = .inr (0, 14) := by decide +kernel
theorem zk_55 : zk 55 = .inr (0, 20) := by decide +kernel
theorem zk_56 : zk 56 = .inr (0, 20) := by decide +kernel
theorem zk_57 : zk 57 = .inr (0, 20) := by decide +kernel
theorem zk_58 : zk 58 = .inr (0, 9) := by decide +kernel
theorem zk_59 : zk 59 = .inr (0, 45) := by decide +kernel
theorem zk_60 : zk 60 = .inr (0, 81) := by decide +kernel
theorem zk_61 : zk 61 = .inr (0, 81) := by decide +kernel
theorem zk_64 : zk 64 = .inl 7 := by decide +kernel
theorem zk_80 : zk 80 = .inl 6 := by decide +kernel
theorem zk_82 : zk 82 = .inr (0, 9) := by decide +kernel
theorem zk_83 : zk 83 = .inr (0, 9) := by decide +kernel
theorem zk_84 : zk 84 = .inr (0, 81) := by decide +kernel
theorem zk_96 : zk 96 = .inl 9 := by decide +kernel
theorem zk_99 : zk 99 = .inr (0, 10) := by decide +kernel
theorem zk_112 : zk 112 = .inl 1 := by decide +kernel
theorem zk_115 : zk 115 = .inr (0, 9) := by decide +kernel
theorem zk_128 : zk 128 = .inl 5 := by decide +kernel
theorem zk_144 : zk 144 = .inl 8 := by decide +kernel
theorem zk_146 : zk 146 = .inr (0, 40) := by decide +kernel
theorem zk_147 : zk 147 = .inr (0, 40) := by decide +kernel
theorem zk_148 : zk 148 = .inr (0, 40) := by decide +kernel
theorem zk_160 : zk 160 = .inl 0 := by decide +kernel
theorem zk_161 : zk 161 = .inr (0, 20) := by decide +kernel
theorem zk_162 : zk 162 = .inr (0, 20) := by decide +kernel
theorem zk_163 : zk 163 = .inr (0, 20) := by decide +kernel
theorem zk_164 : zk 164 = .inr (0, 20) := by decide +kernel
theorem zk_176 : zk 176 = .inl 2 := by decide +kernel
theorem zk_192 : zk 192 = .inl 3 := by decide +kernel
theorem zk_208 : zk 208 = .inl 6 := by decide +kernel
theorem zk_210 : zk 210 = .inr (0, 9) := by decide +kernel
theorem zk_211 : zk 211 = .inr (0, 9) := by decide +kernel
theorem zk_212 : zk 212 = .inr (0, 81) := by decide +kernel
theorem zk_224 : zk 224 = .inl 3 := by decide +kernel
theorem zk_240 : zk 240 = .inl 6 := by decide +kernel
theorem zk_242 : zk 242 = .inr (0, 9) := by decide +kernel
theorem zk_243 : zk 243 = .inr (0, 9) := by decide +kernel
theorem zk_244 : zk 244 = .inr (0, 81) := by decide +kernel
theorem zk_256 : zk 256 = .inl 12 := by decide +kernel
theorem zk_259 : zk 259 = .inr (0, 14) := by decide +kernel
theorem zk_260 : zk 260 = .inr (0, 14) := by decide +kernel
theorem zk_261 : zk 261 = .inr (0, 14) := by decide +kernel
theorem zk_263 : zk 263 = .inr (0, 20) := by decide +kernel
theorem zk_264 : zk 264 = .inr (0, 20) := by decide +kernel
theorem zk_265 : zk 265 = .inr (0, 20) := by decide +kernel
theorem zk_266 : zk 266 = .inr (0, 9) := by decide +kernel
theorem zk_267 : zk 267 = .inr (0, 45) := by decide +kernel
theorem zk_268 : zk 268 = .inr (0, 81) := by decide +kernel
theorem zk_269 : zk 269 = .inr (0, 81) := by decide +kernel
theorem zk_270 : zk 270 = .inr (0, 9) := by decide +kernel
theorem zk_271 : zk 271 = .inr (0, 9) := by decide +kernel
theorem zk_272 : zk 272 = .inr (0, 81) := by decide +kernel
theorem zk_274 : zk 274 = .inr (0, 400) := by decide +kernel
theorem zk_284 : zk 284 = .inr (0, 14) := by decide +kernel
theorem zk_285 : zk 285 = .inr (0, 14) := by decide +kernel
theorem zk_286 : zk 286 = .inr (0, 14) := by decide +kernel
theorem zk_288 : zk 288 = .inr (0, 20) := by decide +kernel
theorem zk_289 : zk 289 = .inr (0, 20) := by decide +kernel
theorem zk_290 : zk 290 = .inr (0, 20) := by decide +kernel
theorem zk_296 : zk 296 = .inr (0, 10) := by decide +kernel
theorem zk_297 : zk 297 = .inr (0, 10) := by decide +kernel
theorem zk_299 : zk 299 = .inr (0, 40) := by decide +kernel
theorem zk_300 : zk 300 = .inr (0, 40) := by decide +kernel
theorem zk_301 : zk 301 = .inr (0, 40) := by decide +kernel
theorem zk_302 : zk 302 = .inr (0, 64) := by decide +kernel
theorem zk_303 : zk 303 = .inr (0, 64) := by decide +kernel
theorem zk_304 : zk 304 = .inr (1, 64) := by decide +kernel
theorem zk_307 : zk 307 = .inr (0, 20) := by decide +kernel
theorem zk_308 : zk 308 = .inr (0, 20) := by decide +kernel
theorem zk_309 : zk 309 = .inr (0, 20) := by decide +kernel
theorem zk_310 : zk 310 = .inr (0, 20) := by decide +kernel
theorem zk_311 : zk 311 = .inr (0, 200) := by decide +kernel
theorem zk_312 : zk 312 = .inr (2, 2) := by decide +kernel
theorem zr_0_0 : zr 0 0 = 16 := by decide +kernel
theorem zr_0_1 : zr 0 1 = 32 := by decide +kernel
theorem zr_0_2 : zr 0 2 = 48 := by decide +kernel
theorem zr_0_3 : zr 0 3 = 64 := by decide +kernel
theorem zr_0_4 : zr 0 4 = 80 := by decide +kernel
theorem zr_0_5 : zr 0 5 = 96 := by decide +kernel
theorem zr_0_6 : zr 0 6 = 112 := by decide +kernel
theorem zr_0_7 : zr 0 7 = 128 := by decide +kernel
theorem zr_0_8 : zr 0 8 = 144 := by decide +kernel
theorem zr_0_9 : zr 0 9 = 160 := by decide +kernel
theorem zr_0_10 : zr 0 10 = 176 := by decide +kernel
theorem zr_0_11 : zr 0 11 = 192 := by decide +kernel
theorem zr_0_12 : zr 0 12 = 224 := by decide +kernel
theorem zr_64_0 : zr 64 0 = 16 := by decide +kernel
theorem zr_64_1 : zr 64 1 = 48 := by decide +kernel
theorem zr_80_0 : zr 80 0 = 32 := by decide +kernel
theorem zr_96_0 : zr 96 0 = 32 := by decide +kernel
theorem zr_96_1 : zr 96 1 = 80 := by decide +kernel
theorem zr_112_0 : zr 112 0 = 32 := by decide +kernel
theorem zr_112_1 : zr 112 1 = 96 := by decide +kernel
theorem zr_128_0 : zr 128 0 = 32 := by decide +kernel
theorem zr_128_1 : zr 128 1 = 80 := by decide +kernel
theorem zr_144_0 : zr 144 0 = 32 := by decide +kernel
theorem zr_192_0 : zr 192 0 = 208 := by decide +kernel
theorem zr_208_0 : zr 208 0 = 32 := by decide +kernel
theorem zr_224_0 : zr 224 0 = 240 := by decide +kernel
theorem zr_240_0 : zr 240 0 = 32 := by decide +kernel
theorem zk_mem {k : Nat} {q : Nat ⊕ (Nat × Nat)} (h : zk k = q) (hq : q ≠ .inl 99) : k ∈ ZL := by
  unfold zk at h
  cases hl : zkL.lookup k with
  | none => rw [hl] at h; exact absurd h.symm hq
  | some v =>
    have : ∀ (L : List (Nat × (Nat ⊕ (Nat × Nat)))), L.lookup k = some v → k ∈ L.map Prod.fst := by
      intro L
      induction L with
      | nil => intro h; cases h
      | cons a t ih =>
        intro h
        obtain ⟨a1, a2⟩ := a
        by_cases e : k = a1
        · subst e; exact List.mem_cons_self
        · rw [List.lookup_cons] at h
          have : (k == a1) = false := by simpa using e
          rw [this] at h
          exact List.mem_cons_of_mem _ (ih h)
    exact this zkL hl

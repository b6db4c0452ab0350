theorem mu_c {μ : Mem} {k j a b : Nat} {v : Int} (h : a ≠ k) : mu μ k j v a b = μ a b := by simp [mu, h]
theorem mu_h {μ : Mem} {k j : Nat} {v : Int} : mu μ k j v k j = v := by simp [mu]
theorem mu_j {μ : Mem} {k j b : Nat} {v : Int} (h : b ≠ j) : mu μ k j v k b = μ k b := by simp [mu, h]
theorem mu_ap {μ : Mem} {k j a b : Nat} {v : Int} : mu μ k j v a b = if a = k ∧ b = j then v else μ a b := rfl
theorem mw_ap {μ : Mem} {k a b : Nat} {r : Nat → Int} : mw μ k r a b = if a = k then r b else μ a b := by
  by_cases h : a = k <;> simp [mw, h]
/-- a condition as an int -/
def bi (c : Prop) [Decidable c] : Int := if c then 1 else 0
theorem bi_pos {c : Prop} [Decidable c] (h : c) : bi c = 1 := if_pos h
theorem bi_neg {c : Prop} [Decidable c] (h : ¬ c) : bi c = 0 := if_neg h
theorem bi_01 (c : Prop) [Decidable c] : bi c = 0 ∨ bi c = 1 := by
  by_cases h : c
  · exact Or.inr (bi_pos h)
  · exact Or.inl (bi_neg h)
theorem bi_rg (c : Prop) [Decidable c] : inR (bi c) := by rcases bi_01 c with h | h <;> rw [h] <;> decide
theorem bi_cg {c d : Prop} [Decidable c] [Decidable d] (h : c ↔ d) : bi c = bi d := by
  by_cases hc : c
  · rw [bi_pos hc, bi_pos (h.mp hc)]
  · rw [bi_neg hc, bi_neg (fun q => hc (h.mpr q))]
theorem bi_ne {c : Prop} [Decidable c] : ¬ bi c = 0 ↔ c := by
  by_cases hc : c
  · simp [bi, hc]
  · simp [bi, hc]

theorem V_ifeq_b {X : ZX} {M : MD} {pc : Nat} {ls st : List AV} {μ : Mem} {c : Prop} [Decidable c] {off : Int} {tgt : Nat} (hd : decode M.1 pc = .ok (.ifCond .eq off, 3)) (ht : (pc : Int) + off = (tgt : Int)) (kt : ¬ c → V X M tgt ls st μ) (kf : c → V X M (pc + 3) ls st μ) : V X M pc ls (vi (bi c) :: st) μ :=
  V_if_eq hd ht (bi_rg c) (fun h => kt (fun hc => absurd h (bi_ne.mpr hc))) (fun h => kf (bi_ne.mp h))

theorem V_ifne_b {X : ZX} {M : MD} {pc : Nat} {ls st : List AV} {μ : Mem} {c : Prop} [Decidable c] {off : Int} {tgt : Nat} (hd : decode M.1 pc = .ok (.ifCond .ne off, 3)) (ht : (pc : Int) + off = (tgt : Int)) (kt : c → V X M tgt ls st μ) (kf : ¬ c → V X M (pc + 3) ls st μ) : V X M pc ls (vi (bi c) :: st) μ :=
  V_if_ne hd ht (bi_rg c) (fun h => kt (bi_ne.mp h)) (fun h => kf (fun hc => h (bi_ne.mpr hc)))

theorem zr_16_0 : zr 16 0 = 17 := by decide +kernel
theorem zr_32_3 : zr 32 3 = 36 := by decide +kernel
theorem zr_32_4 : zr 32 4 = 37 := by decide +kernel
theorem zr_32_5 : zr 32 5 = 38 := by decide +kernel
theorem zr_32_6 : zr 32 6 = 39 := by decide +kernel
theorem zr_32_7 : zr 32 7 = 40 := by decide +kernel
theorem zr_32_8 : zr 32 8 = 41 := by decide +kernel
theorem zr_32_9 : zr 32 9 = 42 := by decide +kernel
theorem zr_32_10 : zr 32 10 = 43 := by decide +kernel
theorem zr_32_11 : zr 32 11 = 44 := by decide +kernel
theorem zr_32_12 : zr 32 12 = 45 := by decide +kernel
theorem zr_48_3 : zr 48 3 = 52 := by decide +kernel
theorem zr_48_4 : zr 48 4 = 53 := by decide +kernel
theorem zr_48_5 : zr 48 5 = 54 := by decide +kernel
theorem zr_48_6 : zr 48 6 = 55 := by decide +kernel
theorem zr_48_7 : zr 48 7 = 56 := by decide +kernel
theorem zr_48_8 : zr 48 8 = 57 := by decide +kernel
theorem zr_48_9 : zr 48 9 = 58 := by decide +kernel
theorem zr_48_10 : zr 48 10 = 59 := by decide +kernel
theorem zr_48_11 : zr 48 11 = 60 := by decide +kernel
theorem zr_48_12 : zr 48 12 = 61 := by decide +kernel
theorem zr_80_1 : zr 80 1 = 82 := by decide +kernel
theorem zr_80_2 : zr 80 2 = 83 := by decide +kernel
theorem zr_80_3 : zr 80 3 = 84 := by decide +kernel
theorem zr_96_2 : zr 96 2 = 99 := by decide +kernel
theorem zr_112_2 : zr 112 2 = 115 := by decide +kernel
theorem zr_144_1 : zr 144 1 = 146 := by decide +kernel
theorem zr_144_2 : zr 144 2 = 147 := by decide +kernel
theorem zr_144_3 : zr 144 3 = 148 := by decide +kernel
theorem zr_160_0 : zr 160 0 = 161 := by decide +kernel
theorem zr_160_1 : zr 160 1 = 162 := by decide +kernel
theorem zr_160_2 : zr 160 2 = 163 := by decide +kernel
theorem zr_160_3 : zr 160 3 = 164 := by decide +kernel
theorem zr_208_1 : zr 208 1 = 210 := by decide +kernel
theorem zr_208_2 : zr 208 2 = 211 := by decide +kernel
theorem zr_208_3 : zr 208 3 = 212 := by decide +kernel
theorem zr_240_1 : zr 240 1 = 242 := by decide +kernel
theorem zr_240_2 : zr 240 2 = 243 := by decide +kernel
theorem zr_240_3 : zr 240 3 = 244 := by decide +kernel
theorem zr_256_2 : zr 256 2 = 259 := by decide +kernel
theorem zr_256_3 : zr 256 3 = 260 := by decide +kernel
theorem zr_256_4 : zr 256 4 = 261 := by decide +kernel
theorem zr_256_6 : zr 256 6 = 263 := by decide +kernel
theorem zr_256_7 : zr 256 7 = 264 := by decide +kernel
theorem zr_256_8 : zr 256 8 = 265 := by decide +kernel
theorem zr_256_9 : zr 256 9 = 266 := by decide +kernel
theorem zr_256_10 : zr 256 10 = 267 := by decide +kernel
theorem zr_256_11 : zr 256 11 = 268 := by decide +kernel
theorem zr_256_12 : zr 256 12 = 269 := by decide +kernel
theorem zr_256_13 : zr 256 13 = 270 := by decide +kernel
theorem zr_256_14 : zr 256 14 = 271 := by decide +kernel
theorem zr_256_15 : zr 256 15 = 272 := by decide +kernel
theorem zr_256_17 : zr 256 17 = 274 := by decide +kernel
theorem zr_256_27 : zr 256 27 = 284 := by decide +kernel
theorem zr_256_28 : zr 256 28 = 285 := by decide +kernel
theorem zr_256_29 : zr 256 29 = 286 := by decide +kernel
theorem zr_256_31 : zr 256 31 = 288 := by decide +kernel
theorem zr_256_32 : zr 256 32 = 289 := by decide +kernel
theorem zr_256_33 : zr 256 33 = 290 := by decide +kernel
theorem zr_256_39 : zr 256 39 = 296 := by decide +kernel
theorem zr_256_40 : zr 256 40 = 297 := by decide +kernel
theorem zr_256_42 : zr 256 42 = 299 := by decide +kernel
theorem zr_256_43 : zr 256 43 = 300 := by decide +kernel
theorem zr_256_44 : zr 256 44 = 301 := by decide +kernel
theorem zr_256_45 : zr 256 45 = 302 := by decide +kernel
theorem zr_256_46 : zr 256 46 = 303 := by decide +kernel
theorem zr_256_47 : zr 256 47 = 304 := by decide +kernel
theorem zr_256_50 : zr 256 50 = 307 := by decide +kernel
theorem zr_256_51 : zr 256 51 = 308 := by decide +kernel
theorem zr_256_52 : zr 256 52 = 309 := by decide +kernel
theorem zr_256_53 : zr 256 53 = 310 := by decide +kernel
theorem zr_256_54 : zr 256 54 = 311 := by decide +kernel
theorem zr_256_55 : zr 256 55 = 312 := by decide +kernel
def LandAt (o : Nat) : Prop := o = 32 ∨ o = 48
theorem LandAt_k {o : Nat} (ho : LandAt o) : zk o = .inl 4 := by rcases ho with rfl | rfl <;> first | exact zk_32 | exact zk_48
theorem LandAt_z3 {o : Nat} (ho : LandAt o) : zr o 3 = o + 4 := by rcases ho with rfl | rfl <;> first | exact zr_32_3 | exact zr_48_3
theorem LandAt_a3 {o : Nat} (ho : LandAt o) : zk (o + 4) = .inr (0, 14) := by rcases ho with rfl | rfl <;> first | exact zk_36 | exact zk_52
theorem LandAt_z4 {o : Nat} (ho : LandAt o) : zr o 4 = o + 5 := by rcases ho with rfl | rfl <;> first | exact zr_32_4 | exact zr_48_4
theorem LandAt_a4 {o : Nat} (ho : LandAt o) : zk (o + 5) = .inr (0, 14) := by rcases ho with rfl | rfl <;> first | exact zk_37 | exact zk_53
theorem LandAt_z5 {o : Nat} (ho : LandAt o) : zr o 5 = o + 6 := by rcases ho with rfl | rfl <;> first | exact zr_32_5 | exact zr_48_5
theorem LandAt_a5 {o : Nat} (ho : LandAt o) : zk (o + 6) = .inr (0, 14) := by rcases ho with rfl | rfl <;> first | exact zk_38 | exact zk_54
theorem LandAt_z6 {o : Nat} (ho : LandAt o) : zr o 6 = o + 7 := by rcases ho with rfl | rfl <;> first | exact zr_32_6 | exact zr_48_6
theorem LandAt_a6 {o : Nat} (ho : LandAt o) : zk (o + 7) = .inr (0, 20) := by rcases ho with rfl | rfl <;> first | exact zk_39 | exact zk_55
theorem LandAt_z7 {o : Nat} (ho : LandAt o) : zr o 7 = o + 8 := by rcases ho with rfl | rfl <;> first | exact zr_32_7 | exact zr_48_7
theorem LandAt_a7 {o : Nat} (ho : LandAt o) : zk (o + 8) = .inr (0, 20) := by rcases ho with rfl | rfl <;> first | exact zk_40 | exact zk_56
theorem LandAt_z8 {o : Nat} (ho : LandAt o) : zr o 8 = o + 9 := by rcases ho with rfl | rfl <;> first | exact zr_32_8 | exact zr_48_8
theorem LandAt_a8 {o : Nat} (ho : LandAt o) : zk (o + 9) = .inr (0, 20) := by rcases ho with rfl | rfl <;> first | exact zk_41 | exact zk_57
theorem LandAt_z9 {o : Nat} (ho : LandAt o) : zr o 9 = o + 10 := by rcases ho with rfl | rfl <;> first | exact zr_32_9 | exact zr_48_9
theorem LandAt_a9 {o : Nat} (ho : LandAt o) : zk (o + 10) = .inr (0, 9) := by rcases ho with rfl | rfl <;> first | exact zk_42 | exact zk_58
theorem LandAt_z10 {o : Nat} (ho : LandAt o) : zr o 10 = o + 11 := by rcases ho with rfl | rfl <;> first | exact zr_32_10 | exact zr_48_10
theorem LandAt_a10 {o : Nat} (ho : LandAt o) : zk (o + 11) = .inr (0, 45) := by rcases ho with rfl | rfl <;> first | exact zk_43 | exact zk_59
theorem LandAt_z11 {o : Nat} (ho : LandAt o) : zr o 11 = o + 12 := by rcases ho with rfl | rfl <;> first | exact zr_32_11 | exact zr_48_11
theorem LandAt_a11 {o : Nat} (ho : LandAt o) : zk (o + 12) = .inr (0, 81) := by rcases ho with rfl | rfl <;> first | exact zk_44 | exact zk_60
theorem LandAt_z12 {o : Nat} (ho : LandAt o) : zr o 12 = o + 13 := by rcases ho with rfl | rfl <;> first | exact zr_32_12 | exact zr_48_12
theorem LandAt_a12 {o : Nat} (ho : LandAt o) : zk (o + 13) = .inr (0, 81) := by rcases ho with rfl | rfl <;> first | exact zk_45 | exact zk_61
def PostsAt (o : Nat) : Prop := o = 80 ∨ o = 208 ∨ o = 240
theorem PostsAt_k {o : Nat} (ho : PostsAt o) : zk o = .inl 6 := by rcases ho with rfl | rfl | rfl <;> first | exact zk_80 | exact zk_208 | exact zk_240
theorem PostsAt_z0 {o : Nat} (ho : PostsAt o) : zr o 0 = 32 := by rcases ho with rfl | rfl | rfl <;> first | exact zr_80_0 | exact zr_208_0 | exact zr_240_0
theorem PostsAt_z1 {o : Nat} (ho : PostsAt o) : zr o 1 = o + 2 := by rcases ho with rfl | rfl | rfl <;> first | exact zr_80_1 | exact zr_208_1 | exact zr_240_1
theorem PostsAt_a1 {o : Nat} (ho : PostsAt o) : zk (o + 2) = .inr (0, 9) := by rcases ho with rfl | rfl | rfl <;> first | exact zk_82 | exact zk_210 | exact zk_242
theorem PostsAt_z2 {o : Nat} (ho : PostsAt o) : zr o 2 = o + 3 := by rcases ho with rfl | rfl | rfl <;> first | exact zr_80_2 | exact zr_208_2 | exact zr_240_2
theorem PostsAt_a2 {o : Nat} (ho : PostsAt o) : zk (o + 3) = .inr (0, 9) := by rcases ho with rfl | rfl | rfl <;> first | exact zk_83 | exact zk_211 | exact zk_243
theorem PostsAt_z3 {o : Nat} (ho : PostsAt o) : zr o 3 = o + 4 := by rcases ho with rfl | rfl | rfl <;> first | exact zr_80_3 | exact zr_208_3 | exact zr_240_3
theorem PostsAt_a3 {o : Nat} (ho : PostsAt o) : zk (o + 4) = .inr (0, 81) := by rcases ho with rfl | rfl | rfl <;> first | exact zk_84 | exact zk_212 | exact zk_244
theorem LandAt_32 : LandAt 32 := Or.inl rfl
theorem LandAt_48 : LandAt 48 := Or.inr rfl
theorem PostsAt_80 : PostsAt 80 := Or.inl rfl
theorem PostsAt_208 : PostsAt 208 := Or.inr (Or.inl rfl)
theorem PostsAt_240 : PostsAt 240 := Or.inr (Or.inr rfl)

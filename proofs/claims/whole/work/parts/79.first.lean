/-! THE FIRST MEMORY: zeroes, and two faults at -1 -/
def mem0 : Mem := fun a b => if a = 64 then (if b = 4 then -1 else 0) else if a = 256 then (if b = 19 then -1 else 0) else 0
theorem mem0_z {a b : Nat} (h : a ≠ 64) (h2 : a ≠ 256) : mem0 a b = 0 := by simp [mem0, h, h2]
theorem LOK_0 (o : Nat) (ho : o = 32 ∨ o = 48) : LOK mem0 o := by
  refine ⟨?_, ?_, ?_, fun p => ?_, fun k j h1 h2 => ?_⟩
  · rw [mem0_z (by omega) (by omega)]; decide
  · rw [mem0_z (by omega) (by omega)]; decide
  · rw [mem0_z (by omega) (by omega)]; decide
  · rw [mem0_z (by omega) (by omega)]; decide
  · rw [mem0_z (by omega) (by omega)]; decide
theorem POK_0 (o : Nat) (ho : o = 80 ∨ o = 208 ∨ o = 240) : POK mem0 o := by
  refine ⟨fun p => ?_, fun p => ?_, fun p => ?_⟩
  · rw [mem0_z (by omega) (by omega)]; decide
  · rw [mem0_z (by omega) (by omega)]; decide
  · rw [mem0_z (by omega) (by omega)]; decide
theorem REL_0 : REL mem0 := by
  have n0 : mem0 32 0 = 0 := rfl
  have n1 : mem0 32 1 = 0 := rfl
  have n2 : mem0 32 2 = 0 := rfl
  have n3 : mem0 144 4 = 0 := rfl
  have n4 : mem0 160 4 = 0 := rfl
  have n5 : mem0 16 1 = 0 := rfl
  have v0 : ∀ {Z : Prop} (p : Nat), (p : Int) < mem0 32 0 → Z := fun p h => by rw [n0] at h; omega
  have v1 : ∀ {Z : Prop} (p : Nat), (p : Int) < mem0 32 1 → Z := fun p h => by rw [n1] at h; omega
  have v2 : ∀ {Z : Prop} (p : Nat), (p : Int) < mem0 32 2 → Z := fun p h => by rw [n2] at h; omega
  have v3 : ∀ {Z : Prop} (p : Nat), (p : Int) < mem0 144 4 → Z := fun p h => by rw [n3] at h; omega
  have v4 : ∀ {Z : Prop} (p : Nat), (p : Int) < mem0 160 4 → Z := fun p h => by rw [n4] at h; omega
  have v5 : ∀ {Z : Prop} (p : Nat), (p : Int) < mem0 16 1 → Z := fun p h => by rw [n5] at h; omega
  have w0 : ∀ {Z : Prop} (p : Int), (0 ≤ p ∧ p < mem0 32 0) → Z := fun p h => by rw [n0] at h; omega
  refine ⟨⟨LOK_0 32 (Or.inl rfl), ⟨fun r h => v1 r h, fun p i h _ => v0 p h, fun p t h _ => v0 p h, fun g h => v2 g h⟩, fun p t h _ => w0 p h, fun p h => w0 p h, fun p i j h _ _ _ => w0 p h, fun p r h _ _ => w0 p h⟩, ⟨POK_0 80 (Or.inl rfl), fun p h _ => v0 p h, fun p t h _ => v0 p h⟩,
    ⟨⟨rfl, rfl, rfl⟩, fun r h => v1 r h, fun g h => v2 g h, fun p h => v0 p h, fun p t h _ => v0 p h, fun p h => v0 p h, fun p t h _ _ => v0 p h⟩, ⟨⟨rfl, by rw [n3]; decide, fun k h => v3 k h⟩, ⟨by rw [n3]; decide, fun k j h1 h2 => by rw [mem0_z (by omega) (by omega)]; decide⟩⟩,
    ⟨⟨rfl, by rw [n4]; decide, fun k h => v4 k h⟩, ⟨by rw [n4]; decide, fun k j h1 h2 => by rw [mem0_z (by omega) (by omega)]; decide⟩⟩, ⟨⟨by rw [n5]; decide, by rw [n5]; decide⟩, fun i => by rw [mem0_z (by decide) (by decide)]; decide, ⟨by rw [show mem0 256 18 = 0 from rfl]; decide, fun i => by rw [mem0_z (by decide) (by decide)]; decide⟩, rfl, fun i h => v5 i h⟩, rfl,
    ⟨rfl, by rw [show mem0 176 0 = 0 from rfl]; decide, by rw [show mem0 176 0 = 0 from rfl]; decide⟩, ?_, ⟨⟨rfl, Or.inl rfl, POK_0 208 (Or.inr (Or.inl rfl)), fun h => absurd h (by rw [mem0_z (by decide) (by decide)]; decide)⟩, ⟨rfl, Or.inl rfl, POK_0 240 (Or.inr (Or.inr rfl)), fun h => absurd h (by rw [mem0_z (by decide) (by decide)]; decide)⟩, fun x => by rw [mem0_z (by decide) (by decide)]; decide, fun j => Or.inl (mem0_z (by decide) (by decide))⟩, LOK_0 48 (Or.inr rfl), fun k h => v3 k h⟩
  refine ⟨by rw [show mem0 256 0 = 0 from rfl]; decide, fun p => ?_, fun p => ?_, fun p => ?_, fun p => ?_, fun p => ?_, fun p => ?_, by rw [show mem0 256 16 = 0 from rfl]; decide⟩
  all_goals (rw [mem0_z (by decide) (by decide)]; decide)
theorem zf0_0 : zf 0 = [3, 3, 3, 3, 0] := by decide +kernel
theorem zf0_1 : zf 1 = [3, 3, 3] := by decide +kernel
theorem zf0_2 : zf 2 = [0] := by decide +kernel
theorem zf0_3 : zf 3 = [3, 0, 2] := by decide +kernel
theorem zf0_4 : zf 4 = [0, 0, 0, 3, 3, 3, 3, 3, 3, 3, 3, 3, 3] := by decide +kernel
theorem zf0_5 : zf 5 = [3, 3, 0, 0] := by decide +kernel
theorem zf0_6 : zf 6 = [3, 3, 3, 3] := by decide +kernel
theorem zf0_7 : zf 7 = [3, 3, 0, 0, 0] := by decide +kernel
theorem zf0_8 : zf 8 = [3, 3, 3, 3, 0] := by decide +kernel
theorem zf0_9 : zf 9 = [3, 3, 3, 0, 0, 0] := by decide +kernel
theorem zf0_10 : zf 10 = [3, 0] := by decide +kernel
theorem zf0_11 : zf 11 = [3, 3, 3, 3, 3, 3, 3, 3, 3, 3, 3, 3, 3] := by decide +kernel
theorem zf0_12 : zf 12 = [0, 0, 3, 3, 3, 0, 3, 3, 3, 3, 3, 3, 3, 3, 3, 3, 0, 3, 0, 0, 0, 1, 0, 0, 0, 0, 0, 3, 3, 3, 0, 3, 3, 3, 0, 0, 0, 0, 0, 3, 3, 0, 3, 3, 3, 3, 3, 3, 0, 0, 3, 3, 3, 3, 3, 3] := by decide +kernel
theorem zr0_16_0 : zr 16 0 = 17 := by decide +kernel
theorem m0_16_1 : mem0 16 1 = 0 := rfl
theorem m0_32_0 : mem0 32 0 = 0 := rfl
theorem m0_32_1 : mem0 32 1 = 0 := rfl
theorem m0_32_2 : mem0 32 2 = 0 := rfl
theorem zr0_32_3 : zr 32 3 = 36 := by decide +kernel
theorem zr0_32_4 : zr 32 4 = 37 := by decide +kernel
theorem zr0_32_5 : zr 32 5 = 38 := by decide +kernel
theorem zr0_32_6 : zr 32 6 = 39 := by decide +kernel
theorem zr0_32_7 : zr 32 7 = 40 := by decide +kernel
theorem zr0_32_8 : zr 32 8 = 41 := by decide +kernel
theorem zr0_32_9 : zr 32 9 = 42 := by decide +kernel
theorem zr0_32_10 : zr 32 10 = 43 := by decide +kernel
theorem zr0_32_11 : zr 32 11 = 44 := by decide +kernel
theorem zr0_32_12 : zr 32 12 = 45 := by decide +kernel
theorem m0_48_0 : mem0 48 0 = 0 := rfl
theorem m0_48_1 : mem0 48 1 = 0 := rfl
theorem m0_48_2 : mem0 48 2 = 0 := rfl
theorem zr0_48_3 : zr 48 3 = 52 := by decide +kernel
theorem zr0_48_4 : zr 48 4 = 53 := by decide +kernel
theorem zr0_48_5 : zr 48 5 = 54 := by decide +kernel
theorem zr0_48_6 : zr 48 6 = 55 := by decide +kernel
theorem zr0_48_7 : zr 48 7 = 56 := by decide +kernel
theorem zr0_48_8 : zr 48 8 = 57 := by decide +kernel
theorem zr0_48_9 : zr 48 9 = 58 := by decide +kernel
theorem zr0_48_10 : zr 48 10 = 59 := by decide +kernel
theorem zr0_48_11 : zr 48 11 = 60 := by decide +kernel
theorem zr0_48_12 : zr 48 12 = 61 := by decide +kernel
theorem m0_64_2 : mem0 64 2 = 0 := rfl
theorem m0_64_3 : mem0 64 3 = 0 := rfl
theorem m0_64_4 : mem0 64 4 = -1 := rfl
theorem zr0_80_1 : zr 80 1 = 82 := by decide +kernel
theorem zr0_80_2 : zr 80 2 = 83 := by decide +kernel
theorem zr0_80_3 : zr 80 3 = 84 := by decide +kernel
theorem zr0_96_2 : zr 96 2 = 99 := by decide +kernel
theorem m0_96_3 : mem0 96 3 = 0 := rfl
theorem m0_96_4 : mem0 96 4 = 0 := rfl
theorem m0_96_5 : mem0 96 5 = 0 := rfl
theorem zr0_112_2 : zr 112 2 = 115 := by decide +kernel
theorem m0_128_2 : mem0 128 2 = 0 := rfl
theorem m0_128_3 : mem0 128 3 = 0 := rfl
theorem zr0_144_1 : zr 144 1 = 146 := by decide +kernel
theorem zr0_144_2 : zr 144 2 = 147 := by decide +kernel
theorem zr0_144_3 : zr 144 3 = 148 := by decide +kernel
theorem m0_144_4 : mem0 144 4 = 0 := rfl
theorem zr0_160_0 : zr 160 0 = 161 := by decide +kernel
theorem zr0_160_1 : zr 160 1 = 162 := by decide +kernel
theorem zr0_160_2 : zr 160 2 = 163 := by decide +kernel
theorem zr0_160_3 : zr 160 3 = 164 := by decide +kernel
theorem m0_160_4 : mem0 160 4 = 0 := rfl
theorem m0_176_0 : mem0 176 0 = 0 := rfl
theorem m0_192_1 : mem0 192 1 = 0 := rfl
theorem m0_192_2 : mem0 192 2 = 0 := rfl
theorem zr0_208_1 : zr 208 1 = 210 := by decide +kernel
theorem zr0_208_2 : zr 208 2 = 211 := by decide +kernel
theorem zr0_208_3 : zr 208 3 = 212 := by decide +kernel
theorem m0_224_1 : mem0 224 1 = 0 := rfl
theorem m0_224_2 : mem0 224 2 = 0 := rfl
theorem zr0_240_1 : zr 240 1 = 242 := by decide +kernel
theorem zr0_240_2 : zr 240 2 = 243 := by decide +kernel
theorem zr0_240_3 : zr 240 3 = 244 := by decide +kernel
theorem m0_256_0 : mem0 256 0 = 0 := rfl
theorem m0_256_1 : mem0 256 1 = 0 := rfl
theorem zr0_256_2 : zr 256 2 = 259 := by decide +kernel
theorem zr0_256_3 : zr 256 3 = 260 := by decide +kernel
theorem zr0_256_4 : zr 256 4 = 261 := by decide +kernel
theorem m0_256_5 : mem0 256 5 = 0 := rfl
theorem zr0_256_6 : zr 256 6 = 263 := by decide +kernel
theorem zr0_256_7 : zr 256 7 = 264 := by decide +kernel
theorem zr0_256_8 : zr 256 8 = 265 := by decide +kernel
theorem zr0_256_9 : zr 256 9 = 266 := by decide +kernel
theorem zr0_256_10 : zr 256 10 = 267 := by decide +kernel
theorem zr0_256_11 : zr 256 11 = 268 := by decide +kernel
theorem zr0_256_12 : zr 256 12 = 269 := by decide +kernel
theorem zr0_256_13 : zr 256 13 = 270 := by decide +kernel
theorem zr0_256_14 : zr 256 14 = 271 := by decide +kernel
theorem zr0_256_15 : zr 256 15 = 272 := by decide +kernel
theorem m0_256_16 : mem0 256 16 = 0 := rfl
theorem zr0_256_17 : zr 256 17 = 274 := by decide +kernel
theorem m0_256_18 : mem0 256 18 = 0 := rfl
theorem m0_256_19 : mem0 256 19 = -1 := rfl
theorem m0_256_20 : mem0 256 20 = 0 := rfl
theorem m0_256_21 : mem0 256 21 = 0 := rfl
theorem m0_256_22 : mem0 256 22 = 0 := rfl
theorem m0_256_23 : mem0 256 23 = 0 := rfl
theorem m0_256_24 : mem0 256 24 = 0 := rfl
theorem m0_256_25 : mem0 256 25 = 0 := rfl
theorem m0_256_26 : mem0 256 26 = 0 := rfl
theorem zr0_256_27 : zr 256 27 = 284 := by decide +kernel
theorem zr0_256_28 : zr 256 28 = 285 := by decide +kernel
theorem zr0_256_29 : zr 256 29 = 286 := by decide +kernel
theorem m0_256_30 : mem0 256 30 = 0 := rfl
theorem zr0_256_31 : zr 256 31 = 288 := by decide +kernel
theorem zr0_256_32 : zr 256 32 = 289 := by decide +kernel
theorem zr0_256_33 : zr 256 33 = 290 := by decide +kernel
theorem m0_256_34 : mem0 256 34 = 0 := rfl
theorem m0_256_35 : mem0 256 35 = 0 := rfl
theorem m0_256_36 : mem0 256 36 = 0 := rfl
theorem m0_256_37 : mem0 256 37 = 0 := rfl
theorem m0_256_38 : mem0 256 38 = 0 := rfl
theorem zr0_256_39 : zr 256 39 = 296 := by decide +kernel
theorem zr0_256_40 : zr 256 40 = 297 := by decide +kernel
theorem m0_256_41 : mem0 256 41 = 0 := rfl
theorem zr0_256_42 : zr 256 42 = 299 := by decide +kernel
theorem zr0_256_43 : zr 256 43 = 300 := by decide +kernel
theorem zr0_256_44 : zr 256 44 = 301 := by decide +kernel
theorem zr0_256_45 : zr 256 45 = 302 := by decide +kernel
theorem zr0_256_46 : zr 256 46 = 303 := by decide +kernel
theorem zr0_256_47 : zr 256 47 = 304 := by decide +kernel
theorem m0_256_48 : mem0 256 48 = 0 := rfl
theorem m0_256_49 : mem0 256 49 = 0 := rfl
theorem zr0_256_50 : zr 256 50 = 307 := by decide +kernel
theorem zr0_256_51 : zr 256 51 = 308 := by decide +kernel
theorem zr0_256_52 : zr 256 52 = 309 := by decide +kernel
theorem zr0_256_53 : zr 256 53 = 310 := by decide +kernel
theorem zr0_256_54 : zr 256 54 = 311 := by decide +kernel
theorem zr0_256_55 : zr 256 55 = 312 := by decide +kernel
theorem zc0_0 (ad : Nat → Nat) (ac : Nat → ClassId) : zc ad ac 0 (mem0 0) = .inr (11, [.ref (ad 16), .ref (ad 32), .ref (ad 48), .ref (ad 64), .ref (ad 80), .ref (ad 96), .ref (ad 112), .ref (ad 128), .ref (ad 144), .ref (ad 160), .ref (ad 176), .ref (ad 192), .ref (ad 224)]) := by
  simp only [zc, zk_0, zf0_11, List.mapIdx_cons, List.mapIdx_nil, zv, Nat.reduceAdd, Nat.zero_add, zr_0_0, zr_0_1, zr_0_2, zr_0_3, zr_0_4, zr_0_5, zr_0_6, zr_0_7, zr_0_8, zr_0_9, zr_0_10, zr_0_11, zr_0_12]
theorem zc0_16 (ad : Nat → Nat) (ac : Nat → ClassId) : zc ad ac 16 (mem0 16) = .inr (10, [.ref (ad 17), z0]) := by
  simp only [zc, zk_16, zf0_10, List.mapIdx_cons, List.mapIdx_nil, zv, Nat.reduceAdd, Nat.zero_add, zr0_16_0, m0_16_1]
theorem zc0_17 (ad : Nat → Nat) (ac : Nat → ClassId) : zc ad ac 17 (mem0 17) = .inl (ac 0, 400, .inl fun _ => Int32.ofInt 0) := by
  simp only [zc, zk_17]
  rfl
theorem zc0_32 (ad : Nat → Nat) (ac : Nat → ClassId) : zc ad ac 32 (mem0 32) = .inr (4, [z0, z0, z0, .ref (ad 36), .ref (ad 37), .ref (ad 38), .ref (ad 39), .ref (ad 40), .ref (ad 41), .ref (ad 42), .ref (ad 43), .ref (ad 44), .ref (ad 45)]) := by
  simp only [zc, zk_32, zf0_4, List.mapIdx_cons, List.mapIdx_nil, zv, Nat.reduceAdd, Nat.zero_add, m0_32_0, m0_32_1, m0_32_2, zr0_32_3, zr0_32_4, zr0_32_5, zr0_32_6, zr0_32_7, zr0_32_8, zr0_32_9, zr0_32_10, zr0_32_11, zr0_32_12]
theorem zc0_36 (ad : Nat → Nat) (ac : Nat → ClassId) : zc ad ac 36 (mem0 36) = .inl (ac 0, 14, .inl fun _ => Int32.ofInt 0) := by
  simp only [zc, zk_36]
  rfl
theorem zc0_37 (ad : Nat → Nat) (ac : Nat → ClassId) : zc ad ac 37 (mem0 37) = .inl (ac 0, 14, .inl fun _ => Int32.ofInt 0) := by
  simp only [zc, zk_37]
  rfl
theorem zc0_38 (ad : Nat → Nat) (ac : Nat → ClassId) : zc ad ac 38 (mem0 38) = .inl (ac 0, 14, .inl fun _ => Int32.ofInt 0) := by
  simp only [zc, zk_38]
  rfl
theorem zc0_39 (ad : Nat → Nat) (ac : Nat → ClassId) : zc ad ac 39 (mem0 39) = .inl (ac 0, 20, .inl fun _ => Int32.ofInt 0) := by
  simp only [zc, zk_39]
  rfl
theorem zc0_40 (ad : Nat → Nat) (ac : Nat → ClassId) : zc ad ac 40 (mem0 40) = .inl (ac 0, 20, .inl fun _ => Int32.ofInt 0) := by
  simp only [zc, zk_40]
  rfl
theorem zc0_41 (ad : Nat → Nat) (ac : Nat → ClassId) : zc ad ac 41 (mem0 41) = .inl (ac 0, 20, .inl fun _ => Int32.ofInt 0) := by
  simp only [zc, zk_41]
  rfl
theorem zc0_42 (ad : Nat → Nat) (ac : Nat → ClassId) : zc ad ac 42 (mem0 42) = .inl (ac 0, 9, .inl fun _ => Int32.ofInt 0) := by
  simp only [zc, zk_42]
  rfl
theorem zc0_43 (ad : Nat → Nat) (ac : Nat → ClassId) : zc ad ac 43 (mem0 43) = .inl (ac 0, 45, .inl fun _ => Int32.ofInt 0) := by
  simp only [zc, zk_43]
  rfl
theorem zc0_44 (ad : Nat → Nat) (ac : Nat → ClassId) : zc ad ac 44 (mem0 44) = .inl (ac 0, 81, .inl fun _ => Int32.ofInt 0) := by
  simp only [zc, zk_44]
  rfl
theorem zc0_45 (ad : Nat → Nat) (ac : Nat → ClassId) : zc ad ac 45 (mem0 45) = .inl (ac 0, 81, .inl fun _ => Int32.ofInt 0) := by
  simp only [zc, zk_45]
  rfl
theorem zc0_48 (ad : Nat → Nat) (ac : Nat → ClassId) : zc ad ac 48 (mem0 48) = .inr (4, [z0, z0, z0, .ref (ad 52), .ref (ad 53), .ref (ad 54), .ref (ad 55), .ref (ad 56), .ref (ad 57), .ref (ad 58), .ref (ad 59), .ref (ad 60), .ref (ad 61)]) := by
  simp only [zc, zk_48, zf0_4, List.mapIdx_cons, List.mapIdx_nil, zv, Nat.reduceAdd, Nat.zero_add, m0_48_0, m0_48_1, m0_48_2, zr0_48_3, zr0_48_4, zr0_48_5, zr0_48_6, zr0_48_7, zr0_48_8, zr0_48_9, zr0_48_10, zr0_48_11, zr0_48_12]
theorem zc0_52 (ad : Nat → Nat) (ac : Nat → ClassId) : zc ad ac 52 (mem0 52) = .inl (ac 0, 14, .inl fun _ => Int32.ofInt 0) := by
  simp only [zc, zk_52]
  rfl
theorem zc0_53 (ad : Nat → Nat) (ac : Nat → ClassId) : zc ad ac 53 (mem0 53) = .inl (ac 0, 14, .inl fun _ => Int32.ofInt 0) := by
  simp only [zc, zk_53]
  rfl
theorem zc0_54 (ad : Nat → Nat) (ac : Nat → ClassId) : zc ad ac 54 (mem0 54) = .inl (ac 0, 14, .inl fun _ => Int32.ofInt 0) := by
  simp only [zc, zk_54]
  rfl
theorem zc0_55 (ad : Nat → Nat) (ac : Nat → ClassId) : zc ad ac 55 (mem0 55) = .inl (ac 0, 20, .inl fun _ => Int32.ofInt 0) := by
  simp only [zc, zk_55]
  rfl
theorem zc0_56 (ad : Nat → Nat) (ac : Nat → ClassId) : zc ad ac 56 (mem0 56) = .inl (ac 0, 20, .inl fun _ => Int32.ofInt 0) := by
  simp only [zc, zk_56]
  rfl
theorem zc0_57 (ad : Nat → Nat) (ac : Nat → ClassId) : zc ad ac 57 (mem0 57) = .inl (ac 0, 20, .inl fun _ => Int32.ofInt 0) := by
  simp only [zc, zk_57]
  rfl
theorem zc0_58 (ad : Nat → Nat) (ac : Nat → ClassId) : zc ad ac 58 (mem0 58) = .inl (ac 0, 9, .inl fun _ => Int32.ofInt 0) := by
  simp only [zc, zk_58]
  rfl
theorem zc0_59 (ad : Nat → Nat) (ac : Nat → ClassId) : zc ad ac 59 (mem0 59) = .inl (ac 0, 45, .inl fun _ => Int32.ofInt 0) := by
  simp only [zc, zk_59]
  rfl
theorem zc0_60 (ad : Nat → Nat) (ac : Nat → ClassId) : zc ad ac 60 (mem0 60) = .inl (ac 0, 81, .inl fun _ => Int32.ofInt 0) := by
  simp only [zc, zk_60]
  rfl
theorem zc0_61 (ad : Nat → Nat) (ac : Nat → ClassId) : zc ad ac 61 (mem0 61) = .inl (ac 0, 81, .inl fun _ => Int32.ofInt 0) := by
  simp only [zc, zk_61]
  rfl
theorem zc0_64 (ad : Nat → Nat) (ac : Nat → ClassId) : zc ad ac 64 (mem0 64) = .inr (7, [.ref (ad 16), .ref (ad 48), z0, z0, .int (Int32.ofInt (-1))]) := by
  simp only [zc, zk_64, zf0_7, List.mapIdx_cons, List.mapIdx_nil, zv, Nat.reduceAdd, Nat.zero_add, zr_64_0, zr_64_1, m0_64_2, m0_64_3, m0_64_4]
theorem zc0_80 (ad : Nat → Nat) (ac : Nat → ClassId) : zc ad ac 80 (mem0 80) = .inr (6, [.ref (ad 32), .ref (ad 82), .ref (ad 83), .ref (ad 84)]) := by
  simp only [zc, zk_80, zf0_6, List.mapIdx_cons, List.mapIdx_nil, zv, Nat.reduceAdd, Nat.zero_add, zr_80_0, zr0_80_1, zr0_80_2, zr0_80_3]
theorem zc0_82 (ad : Nat → Nat) (ac : Nat → ClassId) : zc ad ac 82 (mem0 82) = .inl (ac 0, 9, .inl fun _ => Int32.ofInt 0) := by
  simp only [zc, zk_82]
  rfl
theorem zc0_83 (ad : Nat → Nat) (ac : Nat → ClassId) : zc ad ac 83 (mem0 83) = .inl (ac 0, 9, .inl fun _ => Int32.ofInt 0) := by
  simp only [zc, zk_83]
  rfl
theorem zc0_84 (ad : Nat → Nat) (ac : Nat → ClassId) : zc ad ac 84 (mem0 84) = .inl (ac 0, 81, .inl fun _ => Int32.ofInt 0) := by
  simp only [zc, zk_84]
  rfl
theorem zc0_96 (ad : Nat → Nat) (ac : Nat → ClassId) : zc ad ac 96 (mem0 96) = .inr (9, [.ref (ad 32), .ref (ad 80), .ref (ad 99), z0, z0, z0]) := by
  simp only [zc, zk_96, zf0_9, List.mapIdx_cons, List.mapIdx_nil, zv, Nat.reduceAdd, Nat.zero_add, zr_96_0, zr_96_1, zr0_96_2, m0_96_3, m0_96_4, m0_96_5]
theorem zc0_99 (ad : Nat → Nat) (ac : Nat → ClassId) : zc ad ac 99 (mem0 99) = .inl (ac 0, 10, .inl fun _ => Int32.ofInt 0) := by
  simp only [zc, zk_99]
  rfl
theorem zc0_112 (ad : Nat → Nat) (ac : Nat → ClassId) : zc ad ac 112 (mem0 112) = .inr (1, [.ref (ad 32), .ref (ad 96), .ref (ad 115)]) := by
  simp only [zc, zk_112, zf0_1, List.mapIdx_cons, List.mapIdx_nil, zv, Nat.reduceAdd, Nat.zero_add, zr_112_0, zr_112_1, zr0_112_2]
theorem zc0_115 (ad : Nat → Nat) (ac : Nat → ClassId) : zc ad ac 115 (mem0 115) = .inl (ac 0, 9, .inl fun _ => Int32.ofInt 0) := by
  simp only [zc, zk_115]
  rfl
theorem zc0_128 (ad : Nat → Nat) (ac : Nat → ClassId) : zc ad ac 128 (mem0 128) = .inr (5, [.ref (ad 32), .ref (ad 80), z0, z0]) := by
  simp only [zc, zk_128, zf0_5, List.mapIdx_cons, List.mapIdx_nil, zv, Nat.reduceAdd, Nat.zero_add, zr_128_0, zr_128_1, m0_128_2, m0_128_3]
theorem zc0_144 (ad : Nat → Nat) (ac : Nat → ClassId) : zc ad ac 144 (mem0 144) = .inr (8, [.ref (ad 32), .ref (ad 146), .ref (ad 147), .ref (ad 148), z0]) := by
  simp only [zc, zk_144, zf0_8, List.mapIdx_cons, List.mapIdx_nil, zv, Nat.reduceAdd, Nat.zero_add, zr_144_0, zr0_144_1, zr0_144_2, zr0_144_3, m0_144_4]
theorem zc0_146 (ad : Nat → Nat) (ac : Nat → ClassId) : zc ad ac 146 (mem0 146) = .inl (ac 0, 40, .inl fun _ => Int32.ofInt 0) := by
  simp only [zc, zk_146]
  rfl
theorem zc0_147 (ad : Nat → Nat) (ac : Nat → ClassId) : zc ad ac 147 (mem0 147) = .inl (ac 0, 40, .inl fun _ => Int32.ofInt 0) := by
  simp only [zc, zk_147]
  rfl
theorem zc0_148 (ad : Nat → Nat) (ac : Nat → ClassId) : zc ad ac 148 (mem0 148) = .inl (ac 0, 40, .inl fun _ => Int32.ofInt 0) := by
  simp only [zc, zk_148]
  rfl
theorem zc0_160 (ad : Nat → Nat) (ac : Nat → ClassId) : zc ad ac 160 (mem0 160) = .inr (0, [.ref (ad 161), .ref (ad 162), .ref (ad 163), .ref (ad 164), z0]) := by
  simp only [zc, zk_160, zf0_0, List.mapIdx_cons, List.mapIdx_nil, zv, Nat.reduceAdd, Nat.zero_add, zr0_160_0, zr0_160_1, zr0_160_2, zr0_160_3, m0_160_4]
theorem zc0_161 (ad : Nat → Nat) (ac : Nat → ClassId) : zc ad ac 161 (mem0 161) = .inl (ac 0, 20, .inl fun _ => Int32.ofInt 0) := by
  simp only [zc, zk_161]
  rfl
theorem zc0_162 (ad : Nat → Nat) (ac : Nat → ClassId) : zc ad ac 162 (mem0 162) = .inl (ac 0, 20, .inl fun _ => Int32.ofInt 0) := by
  simp only [zc, zk_162]
  rfl
theorem zc0_163 (ad : Nat → Nat) (ac : Nat → ClassId) : zc ad ac 163 (mem0 163) = .inl (ac 0, 20, .inl fun _ => Int32.ofInt 0) := by
  simp only [zc, zk_163]
  rfl
theorem zc0_164 (ad : Nat → Nat) (ac : Nat → ClassId) : zc ad ac 164 (mem0 164) = .inl (ac 0, 20, .inl fun _ => Int32.ofInt 0) := by
  simp only [zc, zk_164]
  rfl
theorem zc0_176 (ad : Nat → Nat) (ac : Nat → ClassId) : zc ad ac 176 (mem0 176) = .inr (2, [z0]) := by
  simp only [zc, zk_176, zf0_2, List.mapIdx_cons, List.mapIdx_nil, zv, Nat.reduceAdd, Nat.zero_add, m0_176_0]
theorem zc0_192 (ad : Nat → Nat) (ac : Nat → ClassId) : zc ad ac 192 (mem0 192) = .inr (3, [.ref (ad 208), z0, z0]) := by
  simp only [zc, zk_192, zf0_3, List.mapIdx_cons, List.mapIdx_nil, zv, Nat.reduceAdd, Nat.zero_add, zr_192_0, m0_192_1, m0_192_2]
theorem zc0_208 (ad : Nat → Nat) (ac : Nat → ClassId) : zc ad ac 208 (mem0 208) = .inr (6, [.ref (ad 32), .ref (ad 210), .ref (ad 211), .ref (ad 212)]) := by
  simp only [zc, zk_208, zf0_6, List.mapIdx_cons, List.mapIdx_nil, zv, Nat.reduceAdd, Nat.zero_add, zr_208_0, zr0_208_1, zr0_208_2, zr0_208_3]
theorem zc0_210 (ad : Nat → Nat) (ac : Nat → ClassId) : zc ad ac 210 (mem0 210) = .inl (ac 0, 9, .inl fun _ => Int32.ofInt 0) := by
  simp only [zc, zk_210]
  rfl
theorem zc0_211 (ad : Nat → Nat) (ac : Nat → ClassId) : zc ad ac 211 (mem0 211) = .inl (ac 0, 9, .inl fun _ => Int32.ofInt 0) := by
  simp only [zc, zk_211]
  rfl
theorem zc0_212 (ad : Nat → Nat) (ac : Nat → ClassId) : zc ad ac 212 (mem0 212) = .inl (ac 0, 81, .inl fun _ => Int32.ofInt 0) := by
  simp only [zc, zk_212]
  rfl
theorem zc0_224 (ad : Nat → Nat) (ac : Nat → ClassId) : zc ad ac 224 (mem0 224) = .inr (3, [.ref (ad 240), z0, z0]) := by
  simp only [zc, zk_224, zf0_3, List.mapIdx_cons, List.mapIdx_nil, zv, Nat.reduceAdd, Nat.zero_add, zr_224_0, m0_224_1, m0_224_2]
theorem zc0_240 (ad : Nat → Nat) (ac : Nat → ClassId) : zc ad ac 240 (mem0 240) = .inr (6, [.ref (ad 32), .ref (ad 242), .ref (ad 243), .ref (ad 244)]) := by
  simp only [zc, zk_240, zf0_6, List.mapIdx_cons, List.mapIdx_nil, zv, Nat.reduceAdd, Nat.zero_add, zr_240_0, zr0_240_1, zr0_240_2, zr0_240_3]
theorem zc0_242 (ad : Nat → Nat) (ac : Nat → ClassId) : zc ad ac 242 (mem0 242) = .inl (ac 0, 9, .inl fun _ => Int32.ofInt 0) := by
  simp only [zc, zk_242]
  rfl
theorem zc0_243 (ad : Nat → Nat) (ac : Nat → ClassId) : zc ad ac 243 (mem0 243) = .inl (ac 0, 9, .inl fun _ => Int32.ofInt 0) := by
  simp only [zc, zk_243]
  rfl
theorem zc0_244 (ad : Nat → Nat) (ac : Nat → ClassId) : zc ad ac 244 (mem0 244) = .inl (ac 0, 81, .inl fun _ => Int32.ofInt 0) := by
  simp only [zc, zk_244]
  rfl
theorem zc0_256 (ad : Nat → Nat) (ac : Nat → ClassId) : zc ad ac 256 (mem0 256) = .inr (12, [z0, z0, .ref (ad 259), .ref (ad 260), .ref (ad 261), z0, .ref (ad 263), .ref (ad 264), .ref (ad 265), .ref (ad 266), .ref (ad 267), .ref (ad 268), .ref (ad 269), .ref (ad 270), .ref (ad 271), .ref (ad 272), z0, .ref (ad 274), z0, .int (Int32.ofInt (-1)), z0, .long (Int64.ofInt 0), z0, z0, z0, z0, z0, .ref (ad 284), .ref (ad 285), .ref (ad 286), z0, .ref (ad 288), .ref (ad 289), .ref (ad 290), z0, z0, z0, z0, z0, .ref (ad 296), .ref (ad 297), z0, .ref (ad 299), .ref (ad 300), .ref (ad 301), .ref (ad 302), .ref (ad 303), .ref (ad 304), z0, z0, .ref (ad 307), .ref (ad 308), .ref (ad 309), .ref (ad 310), .ref (ad 311), .ref (ad 312)]) := by
  simp only [zc, zk_256, zf0_12, List.mapIdx_cons, List.mapIdx_nil, zv, Nat.reduceAdd, Nat.zero_add, m0_256_0, m0_256_1, zr0_256_2, zr0_256_3, zr0_256_4, m0_256_5, zr0_256_6, zr0_256_7, zr0_256_8, zr0_256_9, zr0_256_10, zr0_256_11, zr0_256_12, zr0_256_13, zr0_256_14, zr0_256_15, m0_256_16, zr0_256_17, m0_256_18, m0_256_19, m0_256_20, m0_256_21, m0_256_22, m0_256_23, m0_256_24, m0_256_25, m0_256_26, zr0_256_27, zr0_256_28, zr0_256_29, m0_256_30, zr0_256_31, zr0_256_32, zr0_256_33, m0_256_34, m0_256_35, m0_256_36, m0_256_37, m0_256_38, zr0_256_39, zr0_256_40, m0_256_41, zr0_256_42, zr0_256_43, zr0_256_44, zr0_256_45, zr0_256_46, zr0_256_47, m0_256_48, m0_256_49, zr0_256_50, zr0_256_51, zr0_256_52, zr0_256_53, zr0_256_54, zr0_256_55]
theorem zc0_259 (ad : Nat → Nat) (ac : Nat → ClassId) : zc ad ac 259 (mem0 259) = .inl (ac 0, 14, .inl fun _ => Int32.ofInt 0) := by
  simp only [zc, zk_259]
  rfl
theorem zc0_260 (ad : Nat → Nat) (ac : Nat → ClassId) : zc ad ac 260 (mem0 260) = .inl (ac 0, 14, .inl fun _ => Int32.ofInt 0) := by
  simp only [zc, zk_260]
  rfl
theorem zc0_261 (ad : Nat → Nat) (ac : Nat → ClassId) : zc ad ac 261 (mem0 261) = .inl (ac 0, 14, .inl fun _ => Int32.ofInt 0) := by
  simp only [zc, zk_261]
  rfl
theorem zc0_263 (ad : Nat → Nat) (ac : Nat → ClassId) : zc ad ac 263 (mem0 263) = .inl (ac 0, 20, .inl fun _ => Int32.ofInt 0) := by
  simp only [zc, zk_263]
  rfl
theorem zc0_264 (ad : Nat → Nat) (ac : Nat → ClassId) : zc ad ac 264 (mem0 264) = .inl (ac 0, 20, .inl fun _ => Int32.ofInt 0) := by
  simp only [zc, zk_264]
  rfl
theorem zc0_265 (ad : Nat → Nat) (ac : Nat → ClassId) : zc ad ac 265 (mem0 265) = .inl (ac 0, 20, .inl fun _ => Int32.ofInt 0) := by
  simp only [zc, zk_265]
  rfl
theorem zc0_266 (ad : Nat → Nat) (ac : Nat → ClassId) : zc ad ac 266 (mem0 266) = .inl (ac 0, 9, .inl fun _ => Int32.ofInt 0) := by
  simp only [zc, zk_266]
  rfl
theorem zc0_267 (ad : Nat → Nat) (ac : Nat → ClassId) : zc ad ac 267 (mem0 267) = .inl (ac 0, 45, .inl fun _ => Int32.ofInt 0) := by
  simp only [zc, zk_267]
  rfl
theorem zc0_268 (ad : Nat → Nat) (ac : Nat → ClassId) : zc ad ac 268 (mem0 268) = .inl (ac 0, 81, .inl fun _ => Int32.ofInt 0) := by
  simp only [zc, zk_268]
  rfl
theorem zc0_269 (ad : Nat → Nat) (ac : Nat → ClassId) : zc ad ac 269 (mem0 269) = .inl (ac 0, 81, .inl fun _ => Int32.ofInt 0) := by
  simp only [zc, zk_269]
  rfl
theorem zc0_270 (ad : Nat → Nat) (ac : Nat → ClassId) : zc ad ac 270 (mem0 270) = .inl (ac 0, 9, .inl fun _ => Int32.ofInt 0) := by
  simp only [zc, zk_270]
  rfl
theorem zc0_271 (ad : Nat → Nat) (ac : Nat → ClassId) : zc ad ac 271 (mem0 271) = .inl (ac 0, 9, .inl fun _ => Int32.ofInt 0) := by
  simp only [zc, zk_271]
  rfl
theorem zc0_272 (ad : Nat → Nat) (ac : Nat → ClassId) : zc ad ac 272 (mem0 272) = .inl (ac 0, 81, .inl fun _ => Int32.ofInt 0) := by
  simp only [zc, zk_272]
  rfl
theorem zc0_274 (ad : Nat → Nat) (ac : Nat → ClassId) : zc ad ac 274 (mem0 274) = .inl (ac 0, 400, .inl fun _ => Int32.ofInt 0) := by
  simp only [zc, zk_274]
  rfl
theorem zc0_284 (ad : Nat → Nat) (ac : Nat → ClassId) : zc ad ac 284 (mem0 284) = .inl (ac 0, 14, .inl fun _ => Int32.ofInt 0) := by
  simp only [zc, zk_284]
  rfl
theorem zc0_285 (ad : Nat → Nat) (ac : Nat → ClassId) : zc ad ac 285 (mem0 285) = .inl (ac 0, 14, .inl fun _ => Int32.ofInt 0) := by
  simp only [zc, zk_285]
  rfl
theorem zc0_286 (ad : Nat → Nat) (ac : Nat → ClassId) : zc ad ac 286 (mem0 286) = .inl (ac 0, 14, .inl fun _ => Int32.ofInt 0) := by
  simp only [zc, zk_286]
  rfl
theorem zc0_288 (ad : Nat → Nat) (ac : Nat → ClassId) : zc ad ac 288 (mem0 288) = .inl (ac 0, 20, .inl fun _ => Int32.ofInt 0) := by
  simp only [zc, zk_288]
  rfl
theorem zc0_289 (ad : Nat → Nat) (ac : Nat → ClassId) : zc ad ac 289 (mem0 289) = .inl (ac 0, 20, .inl fun _ => Int32.ofInt 0) := by
  simp only [zc, zk_289]
  rfl
theorem zc0_290 (ad : Nat → Nat) (ac : Nat → ClassId) : zc ad ac 290 (mem0 290) = .inl (ac 0, 20, .inl fun _ => Int32.ofInt 0) := by
  simp only [zc, zk_290]
  rfl
theorem zc0_296 (ad : Nat → Nat) (ac : Nat → ClassId) : zc ad ac 296 (mem0 296) = .inl (ac 0, 10, .inl fun _ => Int32.ofInt 0) := by
  simp only [zc, zk_296]
  rfl
theorem zc0_297 (ad : Nat → Nat) (ac : Nat → ClassId) : zc ad ac 297 (mem0 297) = .inl (ac 0, 10, .inl fun _ => Int32.ofInt 0) := by
  simp only [zc, zk_297]
  rfl
theorem zc0_299 (ad : Nat → Nat) (ac : Nat → ClassId) : zc ad ac 299 (mem0 299) = .inl (ac 0, 40, .inl fun _ => Int32.ofInt 0) := by
  simp only [zc, zk_299]
  rfl
theorem zc0_300 (ad : Nat → Nat) (ac : Nat → ClassId) : zc ad ac 300 (mem0 300) = .inl (ac 0, 40, .inl fun _ => Int32.ofInt 0) := by
  simp only [zc, zk_300]
  rfl
theorem zc0_301 (ad : Nat → Nat) (ac : Nat → ClassId) : zc ad ac 301 (mem0 301) = .inl (ac 0, 40, .inl fun _ => Int32.ofInt 0) := by
  simp only [zc, zk_301]
  rfl
theorem zc0_302 (ad : Nat → Nat) (ac : Nat → ClassId) : zc ad ac 302 (mem0 302) = .inl (ac 0, 64, .inl fun _ => Int32.ofInt 0) := by
  simp only [zc, zk_302]
  rfl
theorem zc0_303 (ad : Nat → Nat) (ac : Nat → ClassId) : zc ad ac 303 (mem0 303) = .inl (ac 0, 64, .inl fun _ => Int32.ofInt 0) := by
  simp only [zc, zk_303]
  rfl
theorem zc0_304 (ad : Nat → Nat) (ac : Nat → ClassId) : zc ad ac 304 (mem0 304) = .inl (ac 1, 64, .inr (.inl fun _ => Int64.ofInt 0)) := by
  simp only [zc, zk_304]
  rfl
theorem zc0_307 (ad : Nat → Nat) (ac : Nat → ClassId) : zc ad ac 307 (mem0 307) = .inl (ac 0, 20, .inl fun _ => Int32.ofInt 0) := by
  simp only [zc, zk_307]
  rfl
theorem zc0_308 (ad : Nat → Nat) (ac : Nat → ClassId) : zc ad ac 308 (mem0 308) = .inl (ac 0, 20, .inl fun _ => Int32.ofInt 0) := by
  simp only [zc, zk_308]
  rfl
theorem zc0_309 (ad : Nat → Nat) (ac : Nat → ClassId) : zc ad ac 309 (mem0 309) = .inl (ac 0, 20, .inl fun _ => Int32.ofInt 0) := by
  simp only [zc, zk_309]
  rfl
theorem zc0_310 (ad : Nat → Nat) (ac : Nat → ClassId) : zc ad ac 310 (mem0 310) = .inl (ac 0, 20, .inl fun _ => Int32.ofInt 0) := by
  simp only [zc, zk_310]
  rfl
theorem zc0_311 (ad : Nat → Nat) (ac : Nat → ClassId) : zc ad ac 311 (mem0 311) = .inl (ac 0, 200, .inl fun _ => Int32.ofInt 0) := by
  simp only [zc, zk_311]
  rfl
theorem zc0_312 (ad : Nat → Nat) (ac : Nat → ClassId) : zc ad ac 312 (mem0 312) = .inl (ac 2, 2, .inl fun _ => Int32.ofInt 0) := by
  simp only [zc, zk_312]
  rfl
theorem ZL_eq : ZL = [0, 16, 17, 32, 36, 37, 38, 39, 40, 41, 42, 43, 44, 45, 48, 52, 53, 54, 55, 56, 57, 58, 59, 60, 61, 64, 80, 82, 83, 84, 96, 99, 112, 115, 128, 144, 146, 147, 148, 160, 161, 162, 163, 164, 176, 192, 208, 210, 211, 212, 224, 240, 242, 243, 244, 256, 259, 260, 261, 263, 264, 265, 266, 267, 268, 269, 270, 271, 272, 274, 284, 285, 286, 288, 289, 290, 296, 297, 299, 300, 301, 302, 303, 304, 307, 308, 309, 310, 311, 312] := by decide +kernel
set_option maxRecDepth 100000 in
theorem zw0 (ad : Nat → Nat) (ac : Nat → ClassId) : zw ad ac mem0 = [(ad 0, .inr (11, [.ref (ad 16), .ref (ad 32), .ref (ad 48), .ref (ad 64), .ref (ad 80), .ref (ad 96), .ref (ad 112), .ref (ad 128), .ref (ad 144), .ref (ad 160), .ref (ad 176), .ref (ad 192), .ref (ad 224)])), (ad 16, .inr (10, [.ref (ad 17), z0])), (ad 17, .inl (ac 0, 400, .inl fun _ => Int32.ofInt 0)), (ad 32, .inr (4, [z0, z0, z0, .ref (ad 36), .ref (ad 37), .ref (ad 38), .ref (ad 39), .ref (ad 40), .ref (ad 41), .ref (ad 42), .ref (ad 43), .ref (ad 44), .ref (ad 45)])), (ad 36, .inl (ac 0, 14, .inl fun _ => Int32.ofInt 0)), (ad 37, .inl (ac 0, 14, .inl fun _ => Int32.ofInt 0)), (ad 38, .inl (ac 0, 14, .inl fun _ => Int32.ofInt 0)), (ad 39, .inl (ac 0, 20, .inl fun _ => Int32.ofInt 0)), (ad 40, .inl (ac 0, 20, .inl fun _ => Int32.ofInt 0)), (ad 41, .inl (ac 0, 20, .inl fun _ => Int32.ofInt 0)), (ad 42, .inl (ac 0, 9, .inl fun _ => Int32.ofInt 0)), (ad 43, .inl (ac 0, 45, .inl fun _ => Int32.ofInt 0)), (ad 44, .inl (ac 0, 81, .inl fun _ => Int32.ofInt 0)), (ad 45, .inl (ac 0, 81, .inl fun _ => Int32.ofInt 0)), (ad 48, .inr (4, [z0, z0, z0, .ref (ad 52), .ref (ad 53), .ref (ad 54), .ref (ad 55), .ref (ad 56), .ref (ad 57), .ref (ad 58), .ref (ad 59), .ref (ad 60), .ref (ad 61)])), (ad 52, .inl (ac 0, 14, .inl fun _ => Int32.ofInt 0)), (ad 53, .inl (ac 0, 14, .inl fun _ => Int32.ofInt 0)), (ad 54, .inl (ac 0, 14, .inl fun _ => Int32.ofInt 0)), (ad 55, .inl (ac 0, 20, .inl fun _ => Int32.ofInt 0)), (ad 56, .inl (ac 0, 20, .inl fun _ => Int32.ofInt 0)), (ad 57, .inl (ac 0, 20, .inl fun _ => Int32.ofInt 0)), (ad 58, .inl (ac 0, 9, .inl fun _ => Int32.ofInt 0)), (ad 59, .inl (ac 0, 45, .inl fun _ => Int32.ofInt 0)), (ad 60, .inl (ac 0, 81, .inl fun _ => Int32.ofInt 0)), (ad 61, .inl (ac 0, 81, .inl fun _ => Int32.ofInt 0)), (ad 64, .inr (7, [.ref (ad 16), .ref (ad 48), z0, z0, .int (Int32.ofInt (-1))])), (ad 80, .inr (6, [.ref (ad 32), .ref (ad 82), .ref (ad 83), .ref (ad 84)])), (ad 82, .inl (ac 0, 9, .inl fun _ => Int32.ofInt 0)), (ad 83, .inl (ac 0, 9, .inl fun _ => Int32.ofInt 0)), (ad 84, .inl (ac 0, 81, .inl fun _ => Int32.ofInt 0)), (ad 96, .inr (9, [.ref (ad 32), .ref (ad 80), .ref (ad 99), z0, z0, z0])), (ad 99, .inl (ac 0, 10, .inl fun _ => Int32.ofInt 0)), (ad 112, .inr (1, [.ref (ad 32), .ref (ad 96), .ref (ad 115)])), (ad 115, .inl (ac 0, 9, .inl fun _ => Int32.ofInt 0)), (ad 128, .inr (5, [.ref (ad 32), .ref (ad 80), z0, z0])), (ad 144, .inr (8, [.ref (ad 32), .ref (ad 146), .ref (ad 147), .ref (ad 148), z0])), (ad 146, .inl (ac 0, 40, .inl fun _ => Int32.ofInt 0)), (ad 147, .inl (ac 0, 40, .inl fun _ => Int32.ofInt 0)), (ad 148, .inl (ac 0, 40, .inl fun _ => Int32.ofInt 0)), (ad 160, .inr (0, [.ref (ad 161), .ref (ad 162), .ref (ad 163), .ref (ad 164), z0])), (ad 161, .inl (ac 0, 20, .inl fun _ => Int32.ofInt 0)), (ad 162, .inl (ac 0, 20, .inl fun _ => Int32.ofInt 0)), (ad 163, .inl (ac 0, 20, .inl fun _ => Int32.ofInt 0)), (ad 164, .inl (ac 0, 20, .inl fun _ => Int32.ofInt 0)), (ad 176, .inr (2, [z0])), (ad 192, .inr (3, [.ref (ad 208), z0, z0])), (ad 208, .inr (6, [.ref (ad 32), .ref (ad 210), .ref (ad 211), .ref (ad 212)])), (ad 210, .inl (ac 0, 9, .inl fun _ => Int32.ofInt 0)), (ad 211, .inl (ac 0, 9, .inl fun _ => Int32.ofInt 0)), (ad 212, .inl (ac 0, 81, .inl fun _ => Int32.ofInt 0)), (ad 224, .inr (3, [.ref (ad 240), z0, z0])), (ad 240, .inr (6, [.ref (ad 32), .ref (ad 242), .ref (ad 243), .ref (ad 244)])), (ad 242, .inl (ac 0, 9, .inl fun _ => Int32.ofInt 0)), (ad 243, .inl (ac 0, 9, .inl fun _ => Int32.ofInt 0)), (ad 244, .inl (ac 0, 81, .inl fun _ => Int32.ofInt 0)), (ad 256, .inr (12, [z0, z0, .ref (ad 259), .ref (ad 260), .ref (ad 261), z0, .ref (ad 263), .ref (ad 264), .ref (ad 265), .ref (ad 266), .ref (ad 267), .ref (ad 268), .ref (ad 269), .ref (ad 270), .ref (ad 271), .ref (ad 272), z0, .ref (ad 274), z0, .int (Int32.ofInt (-1)), z0, .long (Int64.ofInt 0), z0, z0, z0, z0, z0, .ref (ad 284), .ref (ad 285), .ref (ad 286), z0, .ref (ad 288), .ref (ad 289), .ref (ad 290), z0, z0, z0, z0, z0, .ref (ad 296), .ref (ad 297), z0, .ref (ad 299), .ref (ad 300), .ref (ad 301), .ref (ad 302), .ref (ad 303), .ref (ad 304), z0, z0, .ref (ad 307), .ref (ad 308), .ref (ad 309), .ref (ad 310), .ref (ad 311), .ref (ad 312)])), (ad 259, .inl (ac 0, 14, .inl fun _ => Int32.ofInt 0)), (ad 260, .inl (ac 0, 14, .inl fun _ => Int32.ofInt 0)), (ad 261, .inl (ac 0, 14, .inl fun _ => Int32.ofInt 0)), (ad 263, .inl (ac 0, 20, .inl fun _ => Int32.ofInt 0)), (ad 264, .inl (ac 0, 20, .inl fun _ => Int32.ofInt 0)), (ad 265, .inl (ac 0, 20, .inl fun _ => Int32.ofInt 0)), (ad 266, .inl (ac 0, 9, .inl fun _ => Int32.ofInt 0)), (ad 267, .inl (ac 0, 45, .inl fun _ => Int32.ofInt 0)), (ad 268, .inl (ac 0, 81, .inl fun _ => Int32.ofInt 0)), (ad 269, .inl (ac 0, 81, .inl fun _ => Int32.ofInt 0)), (ad 270, .inl (ac 0, 9, .inl fun _ => Int32.ofInt 0)), (ad 271, .inl (ac 0, 9, .inl fun _ => Int32.ofInt 0)), (ad 272, .inl (ac 0, 81, .inl fun _ => Int32.ofInt 0)), (ad 274, .inl (ac 0, 400, .inl fun _ => Int32.ofInt 0)), (ad 284, .inl (ac 0, 14, .inl fun _ => Int32.ofInt 0)), (ad 285, .inl (ac 0, 14, .inl fun _ => Int32.ofInt 0)), (ad 286, .inl (ac 0, 14, .inl fun _ => Int32.ofInt 0)), (ad 288, .inl (ac 0, 20, .inl fun _ => Int32.ofInt 0)), (ad 289, .inl (ac 0, 20, .inl fun _ => Int32.ofInt 0)), (ad 290, .inl (ac 0, 20, .inl fun _ => Int32.ofInt 0)), (ad 296, .inl (ac 0, 10, .inl fun _ => Int32.ofInt 0)), (ad 297, .inl (ac 0, 10, .inl fun _ => Int32.ofInt 0)), (ad 299, .inl (ac 0, 40, .inl fun _ => Int32.ofInt 0)), (ad 300, .inl (ac 0, 40, .inl fun _ => Int32.ofInt 0)), (ad 301, .inl (ac 0, 40, .inl fun _ => Int32.ofInt 0)), (ad 302, .inl (ac 0, 64, .inl fun _ => Int32.ofInt 0)), (ad 303, .inl (ac 0, 64, .inl fun _ => Int32.ofInt 0)), (ad 304, .inl (ac 1, 64, .inr (.inl fun _ => Int64.ofInt 0))), (ad 307, .inl (ac 0, 20, .inl fun _ => Int32.ofInt 0)), (ad 308, .inl (ac 0, 20, .inl fun _ => Int32.ofInt 0)), (ad 309, .inl (ac 0, 20, .inl fun _ => Int32.ofInt 0)), (ad 310, .inl (ac 0, 20, .inl fun _ => Int32.ofInt 0)), (ad 311, .inl (ac 0, 200, .inl fun _ => Int32.ofInt 0)), (ad 312, .inl (ac 2, 2, .inl fun _ => Int32.ofInt 0))] := by
  unfold zw
  rw [ZL_eq]
  simp only [List.map_cons, List.map_nil, zc0_0, zc0_16, zc0_17, zc0_32, zc0_36, zc0_37, zc0_38, zc0_39, zc0_40, zc0_41, zc0_42, zc0_43, zc0_44, zc0_45, zc0_48, zc0_52, zc0_53, zc0_54, zc0_55, zc0_56, zc0_57, zc0_58, zc0_59, zc0_60, zc0_61, zc0_64, zc0_80, zc0_82, zc0_83, zc0_84, zc0_96, zc0_99, zc0_112, zc0_115, zc0_128, zc0_144, zc0_146, zc0_147, zc0_148, zc0_160, zc0_161, zc0_162, zc0_163, zc0_164, zc0_176, zc0_192, zc0_208, zc0_210, zc0_211, zc0_212, zc0_224, zc0_240, zc0_242, zc0_243, zc0_244, zc0_256, zc0_259, zc0_260, zc0_261, zc0_263, zc0_264, zc0_265, zc0_266, zc0_267, zc0_268, zc0_269, zc0_270, zc0_271, zc0_272, zc0_274, zc0_284, zc0_285, zc0_286, zc0_288, zc0_289, zc0_290, zc0_296, zc0_297, zc0_299, zc0_300, zc0_301, zc0_302, zc0_303, zc0_304, zc0_307, zc0_308, zc0_309, zc0_310, zc0_311, zc0_312]
theorem ex_ad : ∀ (ks vs : List Nat), va_nd ks = true → ks.length = vs.length → ∃ f : Nat → Nat, ks.map f = vs
  | [], [], _, _ => ⟨fun _ => 0, rfl⟩
  | [], _ :: _, _, h => by simp at h
  | _ :: _, [], _, h => by simp at h
  | k :: ks, v :: vs, hn, h => by
    simp only [va_nd, Bool.and_eq_true, decide_eq_true_eq] at hn
    obtain ⟨f, hf⟩ := ex_ad ks vs hn.2 (by simpa using h)
    refine ⟨fun j => if j = k then v else f j, ?_⟩
    rw [List.map_cons, if_pos rfl, ← hf]
    congr 1
    refine List.map_congr_left (fun a ha => ?_)
    rw [if_neg (fun e : a = k => hn.1 (e ▸ ha))]
/-- the cells' addresses are apart -/
theorem zD_of {A : Nat → Prop} {ad : Nat → Nat} {ac : Nat → ClassId} {μ : Mem} (h : va_D A (zw ad ac μ)) : zD A ad := by
  have key : ∀ k ∈ ZL, ∃ i : Nat, ZL[i]? = some k ∧ (zw ad ac μ)[i]? = some (ad k, zc ad ac k (μ k)) := by
    intro k hk
    obtain ⟨i, hi⟩ := List.getElem?_of_mem hk
    exact ⟨i, hi, by simp [zw, hi]⟩
  refine ⟨fun a b ha hb e => ?_, fun k hk => ?_⟩
  · obtain ⟨i, h1, h2⟩ := key a ha
    obtain ⟨j, h3, h4⟩ := key b hb
    have := h.1 i j _ _ h2 h4 e
    subst this
    exact Option.some.inj (h1.symm.trans h3)
  · obtain ⟨i, h1, h2⟩ := key k hk
    exact h.2 i _ h2

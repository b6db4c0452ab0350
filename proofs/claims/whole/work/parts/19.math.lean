theorem s_min {μ : Mem} {a b : Int} (ha : inR a) (hb : inR b) : SP mJ9_min_7cf53 [vi a, vi b] μ (fun w m => w = vi (min a b) ∧ m = μ) := by
  sorry
theorem s_floorMod {μ : Mem} {a b : Int} (ha : inR a) (hb : 0 < b) (hb2 : b < 1000) : SP mJ9_floorMod_7cf53 [vi a, vi b] μ (fun w m => w = vi (a % b) ∧ m = μ) := by
  sorry

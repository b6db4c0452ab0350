theorem V_lookup {X : ZX} {M : MD} {pc : Nat} {ls st : List AV} {μ : Mem} {x dflt off : Int} {ps : Array (Int × Int)} {len tgt : Nat} (hd : decode M.1 pc = .ok (.lookupswitch dflt ps, len)) (hx0 : inR x) (hp : (ps.toList.zip (ps.toList.drop 1)).all (fun (a, next) => a.1 < next.1) = true) (ho : Op.lookupswitch.offset ps.toList dflt x = off) (ht : (pc : Int) + off = (tgt : Int)) (k : V X M tgt ls st μ) : V X M pc ls (vi x :: st) μ := by
  obtain ⟨⟨l, dC, dI, ad, ac, sK, sV⟩, p, e, R, s, m, args, below, meth, c, A, cells, slots, Fin⟩ := X
  obtain ⟨cc, own, y, nL, ret, d⟩ := M
  intro C H locs la hP hS hl
  have k := k C H locs la hP hS hl
  obtain ⟨hx, hb, hr, hlk, hml, hown, hts, hK, hD, hSX, hc1, hc2, hd1, hd2⟩ := C
  refine lv_lookup (x := Int32.ofInt x) hx hb hd hp (by rw [zi_to hx0]; exact ho) ht k

/-- bits of a set of nine, counted -/
def bts (s : Int) : Nat → Int → Int → Int
  | 0, _, acc => acc
  | n + 1, k, acc => bts s n (k + 1) (acc + hb s k)
theorem bts_s {s : Int} {n : Nat} {k acc : Int} : bts s (n + 1) k acc = bts s n (k + 1) (acc + hb s k) := rfl
def bitsF (s : Int) : Int := bts s 9 0 0

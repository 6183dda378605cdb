/-! pairs, and the whole of a plan -/
theorem evP_f {c : Nat} {x y : Int64 × Bool} (h1 : x.2 = false) (h2 : y.2 = false) : evP c x y = prV c x.1 y.1 := by simp [evP, h1, h2]
theorem evP_t {c : Nat} {x y : Int64 × Bool} (h : x.2 = true ∨ y.2 = true) : evP c x y = (0, true) := by unfold evP; rw [if_pos h]
theorem l_nle {a b : Int64} : ¬ b ≤ a ↔ a < b := by rw [Int64.le_iff_toInt_le, Int64.lt_iff_toInt_lt]; omega
theorem l_nlt' {a b : Int64} : ¬ a < b ↔ b ≤ a := by rw [Int64.le_iff_toInt_le, Int64.lt_iff_toInt_lt]; omega
theorem l_ge {a b : Int64} (h : b ≤ a) : ¬ a < b := l_nlt'.mpr h
theorem evN_48 {S : zS} {ro : Nat} {a b : Int32} {s : zVs × Int64} : evN S ro (48, a, b) s = ((a.toInt64, false), s.2) := rfl
theorem evN_f {S : zS} {ro c k : Nat} {b : Int32} {s : zVs × Int64} (hc : isF c) (hk : k < 2 ^ 31) : evN S ro (c, nI k, b) s = evF S c (wlk S k (some ro) s.2) := by
  have : ¬ c = 48 := by rcases hc with rfl | rfl | rfl | rfl | rfl <;> decide
  unfold evN
  simp only [if_neg this, if_pos hc, nI_clamp hk]
theorem evN_t {S : zS} {ro k : Nat} {b : Int32} {s : zVs × Int64} (hk : k < 2 ^ 31) : evN S ro (116, nI k, b) s = evT S (gV s.1 b) (wlk S k (some ro) s.2) := by
  unfold evN
  simp only [nI_clamp hk]
  rfl
theorem evN_p {S : zS} {ro c : Nat} {a b : Int32} {s : zVs × Int64} (hc : isP c) : evN S ro (c, a, b) s = (evP c (gV s.1 a) (gV s.1 b), s.2) := by
  unfold evN
  rcases hc with rfl | rfl | rfl | rfl | rfl | rfl | rfl | rfl | rfl | rfl | rfl | rfl | rfl <;> rfl
theorem evS_of {S : zS} {ro : Nat} {s : zVs × Int64} {x : zNd} {y : Int64 × Bool} {h : Int64} (e : evN S ro x s = (y, h)) : evS S ro s x = (s.1 ++ [y], h) := by unfold evS; rw [e]
theorem upd_lt {an : Nat → Int32} {i : Nat} {v : Int32} : ∀ k : Nat, k < i → upd an i v k = an k := fun k hk => pk_un (by omega)
theorem upd_lt2 {an : Nat → Int32} {i : Nat} {v w : Int32} : ∀ k : Nat, k < i → upd (upd an i v) i w k = an k := fun k hk => by rw [pk_un (by omega), pk_un (by omega)]
theorem hoV_0 {V : zVs} {va : Nat → Int64} {an : Nat → Int32} {i : Nat} {v : Int32} (h : hoV V va an) (hi : V.length = i) : hoV V va (upd an i v) := by
  intro k y hk
  have hl := (List.getElem?_eq_some_iff.mp hk).1
  rw [pk_un (by omega)]
  exact h k y hk

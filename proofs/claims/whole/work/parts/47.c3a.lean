/-! the class's groups -/
def mgv (S : zS) (c : Int32) (va : Nat → Int64) (mn : Nat → Int32) (lo hi : Nat → Int64) : zS := (fun i => if i = 0 then c else S.1 i, S.2.1, fun i => if i = 2 then mn else S.2.2.1 i, fun i => if i = 1 then va else if i = 3 then lo else if i = 4 then hi else S.2.2.2 i)
theorem l_nlt {a b : Int64} (h : ¬ a < b) : b ≤ a := by
  rw [Int64.le_iff_toInt_le]; rw [Int64.lt_iff_toInt_lt] at h; omega

/-! the class's Store -/
def hasB (m : Nat) (ln : Nat → Int32) (o : Int32) (i : Int64) : Bool := decide (¬ o < 0 ∧ o.toNatClampNeg < m ∧ ¬ i < 0 ∧ ¬ (ln o.toNatClampNeg).toInt64 ≤ i)
theorem hasB_nI {m j : Nat} {ln : Nat → Int32} {i : Int64} (hm : m < 2 ^ 31) (hj : j < m) : hasB m ln (nI j) i = decide (¬ i < 0 ∧ ¬ (ln j).toInt64 ≤ i) := by
  unfold hasB
  rw [nI_clamp (by omega)]
  simp [nI_pos (show j < 2 ^ 31 by omega), hj]
theorem hasB_no {m : Nat} {ln : Nat → Int32} {o : Int32} {i : Int64} (h : ¬ ∃ j : Nat, j < m ∧ o = nI j) : hasB m ln o i = false := by
  unfold hasB
  refine decide_eq_false ?_
  rintro ⟨h1, h2, -⟩
  obtain ⟨j, hj, rfl⟩ := nI_of h1
  rw [nI_clamp hj] at h2
  exact h ⟨j, h2, rfl⟩
theorem no_lt {o : Int32} {m : Nat} (hm : m < 2 ^ 31) (h : o < 0) : ¬ ∃ j : Nat, j < m ∧ o = nI j := by
  rintro ⟨j, hj, rfl⟩
  exact nI_pos (by omega) h
theorem no_ge {o : Int32} {m : Nat} (hm : m < 2 ^ 31) (h : nI m ≤ o) : ¬ ∃ j : Nat, j < m ∧ o = nI j := by
  rintro ⟨j, hj, rfl⟩
  exact absurd (gI hm (by omega) h) (by omega)
theorem ix3c {o p : Nat} : nI o * 3 + nI p = nI (3 * o + p) := by
  rw [show (3 : Int32) = nI 3 from rfl, pk_mul, nI_add, Nat.mul_comm]
theorem ix8c {o p : Nat} : nI o * 8 + nI p = nI (8 * o + p) := by
  rw [show (8 : Int32) = nI 8 from rfl, pk_mul, nI_add, Nat.mul_comm]
def zAw (S : zS) (k : Nat) (f : Nat → Int32) : zS := (S.1, S.2.1, fun i => if i = k then f else S.2.2.1 i, S.2.2.2)
/-- references to a dropped OBJECT go, up to the i-th OBJECT -/
def unref (rf : Nat → Int32) (o i : Nat) : Nat → Int32 := fun j => if j < i ∧ rf j = nI o then -1 else rf j
theorem unref_0 (rf : Nat → Int32) (o : Nat) : unref rf o 0 = rf := by funext j; simp [unref]
theorem unref_y {rf : Nat → Int32} {o i : Nat} (h : rf i = nI o) : upd (unref rf o i) i (-1) = unref rf o (i + 1) := by
  funext j
  by_cases e : j = i
  · subst e; rw [pk_us]; simp [unref, h]
  · rw [pk_un e]; unfold unref
    by_cases q : j < i ∧ rf j = nI o
    · rw [if_pos q, if_pos ⟨by omega, q.2⟩]
    · rw [if_neg q, if_neg (fun z => q ⟨by omega, z.2⟩)]
theorem unref_n {rf : Nat → Int32} {o i : Nat} (h : ¬ rf i = nI o) : unref rf o (i + 1) = unref rf o i := by
  funext j
  unfold unref
  by_cases q : j < i ∧ rf j = nI o
  · rw [if_pos q, if_pos ⟨by omega, q.2⟩]
  · rw [if_neg q, if_neg (fun z => q ⟨by
      rcases Nat.lt_or_ge j i with w | w
      · exact w
      · exact absurd (by rw [show i = j by omega]; exact z.2) h, z.2⟩)]
theorem unref_at (rf : Nat → Int32) (o i : Nat) : unref rf o i i = rf i := by simp [unref]
theorem i0n {a : Int32} (h : ¬ a < 0) : 0 ≤ a := by
  rw [Int32.le_iff_toInt_le]; rw [Int32.lt_iff_toInt_lt] at h; omega
theorem i4n {a : Int32} (h : ¬ 4 ≤ a) : a ≤ 3 := by
  have e4 : (4 : Int32).toInt = 4 := by decide
  have e3 : (3 : Int32).toInt = 3 := by decide
  rw [Int32.le_iff_toInt_le]; rw [Int32.le_iff_toInt_le] at h; omega
theorem i3l {a : Int32} (h : a < 3) : a ≤ 2 := by
  have e4 : (3 : Int32).toInt = 3 := by decide
  have e3 : (2 : Int32).toInt = 2 := by decide
  rw [Int32.le_iff_toInt_le]; rw [Int32.lt_iff_toInt_lt] at h; omega

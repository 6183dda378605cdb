/-! a group's sum goes up -/
theorem nn_msb (x : Int64) : 0 ≤ x ↔ x.toBitVec.msb = false := by
  rw [Int64.le_iff_toInt_le, BitVec.msb_eq_toInt]
  have h : (0 : Int64).toInt = 0 := by decide
  rw [h]
  show 0 ≤ x.toBitVec.toInt ↔ _
  simp
theorem carryB (a s : Int64) : (0 ≤ (a &&& s) ||| ((a ||| s) &&& ((a + s) ^^^ (-1)))) ↔ ltU (a + s) s = false := by
  rw [nn_msb]
  have e : ((a &&& s) ||| ((a ||| s) &&& ((a + s) ^^^ (-1)))).toBitVec = (a.toBitVec &&& s.toBitVec) ||| ((a.toBitVec ||| s.toBitVec) &&& ((a.toBitVec + s.toBitVec) ^^^ BitVec.allOnes 64)) := rfl
  rw [e]
  unfold ltU
  have e2 : (a + s).toBitVec = a.toBitVec + s.toBitVec := rfl
  rw [e2, BitVec.msb_or, BitVec.msb_and, BitVec.msb_and, BitVec.msb_or, BitVec.msb_xor, BitVec.msb_allOnes (by decide)]
  rw [BitVec.msb_eq_decide, BitVec.msb_eq_decide, BitVec.msb_eq_decide, BitVec.toNat_add]
  have h1 := a.toBitVec.isLt
  have h2 := s.toBitVec.isLt
  generalize a.toBitVec.toNat = A at h1 ⊢
  generalize s.toBitVec.toNat = B at h2 ⊢
  simp only [Nat.reducePow, Nat.reduceSub] at h1 h2 ⊢
  by_cases p1 : 9223372036854775808 ≤ A <;> by_cases p2 : 9223372036854775808 ≤ B <;> by_cases p3 : 9223372036854775808 ≤ (A + B) % 18446744073709551616 <;> simp [p1, p2, p3] <;> omega
theorem upG_t {s : Int64} {g : zRow} (h : ltU (g.2.2.1 + s) s = true) : upG s g = (g.1 + 1, g.2.1, g.2.2.1 + s, g.2.2.2 + ((if 0 ≤ s then 0 else -1) + (1 : Int32).toInt64)) := by
  have h1 : ¬ (0 ≤ (g.2.2.1 &&& s) ||| ((g.2.2.1 ||| s) &&& ((g.2.2.1 + s) ^^^ (-1)))) := fun q => by
    rw [(carryB _ _).mp q] at h; cases h
  unfold upG
  rw [if_neg h1]
  rfl
theorem upG_f {s : Int64} {g : zRow} (h : ltU (g.2.2.1 + s) s = false) : upG s g = (g.1 + 1, g.2.1, g.2.2.1 + s, g.2.2.2 + ((if 0 ≤ s then 0 else -1) + (0 : Int32).toInt64)) := by
  unfold upG
  rw [if_pos ((carryB _ _).mpr h)]
  rfl
theorem l_ltn {a b : Int64} (h : a ≤ b) (hn : ¬ b = a) : a < b := by
  rw [Int64.lt_iff_toInt_lt]; rw [Int64.le_iff_toInt_le] at h
  have : ¬ b.toInt = a.toInt := fun q => hn (Int64.toInt_inj.mp q)
  omega
theorem ad_len {L : List zRow} {k : Nat} {x y : zRow} (hk : k ≤ L.length) : ((L.take k ++ x :: L.drop k).set k y).length = L.length + 1 := by
  simp; omega

/-! answers -/
def usB (S : zS) (q : Nat) (e : Nat → Nat) (o k : Nat) : Bool := decide (¬ za S 2 k = 0) && (decide (za S 3 k = za S 8 q) && decide (¬ (wC S k e 4).2.2 o = 0))
def usN (S : zS) (q : Nat) (e : Nat → Nat) (o : Nat) : Nat → Nat
  | 0 => 0
  | k + 1 => usN S q e o k + (if usB S q e o k then 1 else 0)
theorem us_y {S : zS} {q o k : Nat} {e : Nat → Nat} (h : usB S q e o k = true) : nI (usN S q e o k) + 1 = nI (usN S q e o (k + 1)) := by
  rw [nI_1]; simp [usN, h]
theorem us_n {S : zS} {q o k : Nat} {e : Nat → Nat} (h : usB S q e o k = false) : usN S q e o (k + 1) = usN S q e o k := by simp [usN, h]
theorem us_n0 {S : zS} {q o k : Nat} {e : Nat → Nat} (h : usB S q e o k = false) : nI (usN S q e o k) + 0 = nI (usN S q e o (k + 1)) := by
  rw [us_n h]; exact nI_add _ 0
theorem wi0 {x lo hi : Int32} (h : ¬ (lo ≤ x ∧ x ≤ hi)) : bI (decide (lo ≤ x ∧ x ≤ hi)) = 0 := by rw [decide_eq_false h]; rfl
theorem wi1 {x lo hi : Int32} (h : lo ≤ x ∧ x ≤ hi) : bI (decide (lo ≤ x ∧ x ≤ hi)) = 1 := by rw [decide_eq_true h]; rfl
theorem wiN {i n : Nat} (h : i < n) (hn : n < 2 ^ 31) : 0 ≤ nI i ∧ nI i ≤ nI n - 1 := by
  obtain ⟨k, rfl⟩ : ∃ k, n = k + 1 := ⟨n - 1, by omega⟩
  rw [nI_pred]
  exact ⟨nI_pos' (by omega), nI_le (by omega) (by omega)⟩
theorem ix10 {o i : Nat} : 8 * nI o + nI (10 + i) - 10 = nI (8 * o + i) := by
  rw [show (8 : Int32) = nI 8 from rfl, pk_mul, nI_add, show (10 : Int32) = nI 10 from rfl, pk_sub (by omega)]
  congr 1
  omega

/-! numbers: places in rows, 'within' -/
theorem wi_ix {o : Int32} {m : Nat} (hm : m < 2 ^ 31) (h : decide (0 ≤ o ∧ o ≤ nI m - 1) = true) : ∃ j : Nat, j < m ∧ o = nI j := by
  obtain ⟨h0, h1⟩ := of_decide_eq_true h
  rcases pk_ix o hm with q | q | q
  · rw [Int32.lt_iff_toInt_lt] at q
    rw [Int32.le_iff_toInt_le] at h0
    omega
  · exfalso
    cases m with
    | zero =>
      rw [Int32.le_iff_toInt_le] at h0 h1
      have : (nI 0 - 1 : Int32).toInt = -1 := by decide
      rw [this] at h1
      have : (0 : Int32).toInt = 0 := by decide
      omega
    | succ m =>
      rw [nI_pred] at h1
      rw [Int32.le_iff_toInt_le] at h1 q
      rw [nI_toInt (by omega)] at h1 q
      omega
  · exact q
theorem wi_no {o : Int32} {m : Nat} (hm : m < 2 ^ 31) (h : decide (0 ≤ o ∧ o ≤ nI m - 1) = false) : ¬ ∃ j : Nat, j < m ∧ o = nI j := by
  rintro ⟨j, hj, rfl⟩
  have h := of_decide_eq_false h
  refine h ⟨nI_pos' (by omega), ?_⟩
  cases m with
  | zero => omega
  | succ m =>
    rw [nI_pred]
    exact nI_le (by omega) (by omega)
theorem bw1 {x low high : Int32} (h1 : low ≤ x) (h2 : x ≤ high) : bI (decide (low ≤ x ∧ x ≤ high)) = 1 := by simp [bI, h1, h2]
theorem bw0 {x low high : Int32} (h : x < low ∨ high < x) : bI (decide (low ≤ x ∧ x ≤ high)) = 0 := by
  rw [decide_eq_false]
  · rfl
  · rintro ⟨a, b⟩
    rw [Int32.le_iff_toInt_le] at a b
    rw [Int32.lt_iff_toInt_lt, Int32.lt_iff_toInt_lt] at h
    omega
/-- an OBJECT that is there, by its number -/
def thB (m : Nat) (th : Nat → Int32) (o : Int32) : Bool := decide (¬ o < 0 ∧ o.toNatClampNeg < m ∧ ¬ th o.toNatClampNeg = 0)
theorem thB_nI {m j : Nat} {th : Nat → Int32} (hm : m < 2 ^ 31) (hj : j < m) : thB m th (nI j) = decide (¬ th j = 0) := by
  unfold thB
  rw [nI_clamp (by omega)]
  simp [nI_pos (show j < 2 ^ 31 by omega), hj]
theorem thB_no {m : Nat} {th : Nat → Int32} {o : Int32} (hm : m < 2 ^ 31) (h : ¬ ∃ j : Nat, j < m ∧ o = nI j) : thB m th o = false := by
  unfold thB
  refine decide_eq_false ?_
  rintro ⟨h1, h2, -⟩
  obtain ⟨j, hj, rfl⟩ := nI_of h1
  rw [nI_clamp hj] at h2
  exact h ⟨j, h2, rfl⟩

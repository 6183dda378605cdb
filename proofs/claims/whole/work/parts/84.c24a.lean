/-! differences, told one by one -/
def dfO (S : zS) (k : Nat) : Option Nat := if ctB (uN (zl S 1)).testBit 64 ≤ k then btA (bitL (zl S 2)) (k - ctB (uN (zl S 1)).testBit 64) 60 0 else btA (bitL (zl S 1)) k 60 0
def tlV (S : zS) (q j : Nat) (w : Int32) : Int32 := if w = 0 then nI q else if w = 1 then oI (dfO S j) else if w = 2 then bI (decide (ctB (uN (zl S 1)).testBit 64 ≤ j)) else -1
def dfA (SK : Nat → zS) : Nat → Nat → Nat → Option (Nat × Nat)
  | 0, _, _ => none
  | n + 1, q, j => if j < ctS (SK q) then some (q, j) else dfA SK n (q + 1) (j - ctS (SK q))
def dfR_ (SK : Nat → zS) (nq k : Nat) (w : Int32) : Int32 := match dfA SK nq 0 k with
  | none => -1
  | some (q, j) => tlV (SK q) q j w
theorem tw3 (w : Int32) : w = 0 ∨ w = 1 ∨ w = 2 ∨ (w.toInt < 0 ∨ 2 < w.toInt) := by
  rcases Classical.em (w.toInt < 0 ∨ 2 < w.toInt) with h | h
  · exact Or.inr (Or.inr (Or.inr h))
  · have e : w.toInt = 0 ∨ w.toInt = 1 ∨ w.toInt = 2 := by omega
    rcases e with e | e | e
    · exact Or.inl (Int32.toInt_inj.mp (by rw [e]; decide))
    · exact Or.inr (Or.inl (Int32.toInt_inj.mp (by rw [e]; decide)))
    · exact Or.inr (Or.inr (Or.inl (Int32.toInt_inj.mp (by rw [e]; decide))))
theorem tw_out {w : Int32} (h : w.toInt < 0 ∨ 2 < w.toInt) : ¬ w = 0 ∧ ¬ w = 1 ∧ ¬ w = 2 := by
  refine ⟨fun e => ?_, fun e => ?_, fun e => ?_⟩ <;> subst e <;> exact absurd h (by decide)

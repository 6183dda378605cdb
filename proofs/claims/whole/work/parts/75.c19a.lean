/-! all rows that must be worked out anew -/
abbrev zR2 : Type := Nat → zD × Int64
def fwD (P : Nat → Bool) (D : Nat → zD) (R : zR2) (i : Nat) : Nat → zD := fun o => if o < i ∧ P o = true then (R o).1 else D o
def fwH (P : Nat → Bool) (hg : Nat → Int64) (R : zR2) (i : Nat) : Nat → Int64 := fun o => if o < i ∧ P o = true then (R o).2 else hg o
theorem fwD_0 (P : Nat → Bool) (D : Nat → zD) (R : zR2) : fwD P D R 0 = D := by funext o; simp [fwD]
theorem fwH_0 (P : Nat → Bool) (hg : Nat → Int64) (R : zR2) : fwH P hg R 0 = hg := by funext o; simp [fwH]
theorem fwD_y {P : Nat → Bool} {i : Nat} (h : P i = true) (D : Nat → zD) (R : zR2) : updD (fwD P D R i) i (R i).1 = fwD P D R (i + 1) := by
  funext o
  unfold updD fwD
  by_cases e : o = i
  · subst e; rw [if_pos rfl, if_pos ⟨by omega, h⟩]
  · rw [if_neg e]
    by_cases q : o < i ∧ P o = true
    · rw [if_pos q, if_pos ⟨by omega, q.2⟩]
    · rw [if_neg q, if_neg (fun z => q ⟨by omega, z.2⟩)]
theorem fwH_y {P : Nat → Bool} {i : Nat} (h : P i = true) (hg : Nat → Int64) (R : zR2) : vp_updL (fwH P hg R i) i (R i).2 = fwH P hg R (i + 1) := by
  funext o
  by_cases e : o = i
  · subst e; rw [pk_uLs]; unfold fwH; rw [if_pos ⟨by omega, h⟩]
  · rw [pk_uLn e]; unfold fwH
    by_cases q : o < i ∧ P o = true
    · rw [if_pos q, if_pos ⟨by omega, q.2⟩]
    · rw [if_neg q, if_neg (fun z => q ⟨by omega, z.2⟩)]
theorem fwD_n {P : Nat → Bool} {i : Nat} (h : P i = false) (D : Nat → zD) (R : zR2) : fwD P D R (i + 1) = fwD P D R i := by
  funext o
  unfold fwD
  by_cases q : o < i ∧ P o = true
  · rw [if_pos q, if_pos ⟨by omega, q.2⟩]
  · have q2 : ¬ (o < i + 1 ∧ P o = true) := fun z => by
      rcases Nat.lt_or_ge o i with w | w
      · exact q ⟨w, z.2⟩
      · have e : o = i := by omega
        have z2 := z.2
        rw [e, h] at z2
        exact Bool.noConfusion z2
    rw [if_neg q, if_neg q2]
theorem fwH_n {P : Nat → Bool} {i : Nat} (h : P i = false) (hg : Nat → Int64) (R : zR2) : fwH P hg R (i + 1) = fwH P hg R i := by
  funext o
  unfold fwH
  by_cases q : o < i ∧ P o = true
  · rw [if_pos q, if_pos ⟨by omega, q.2⟩]
  · have q2 : ¬ (o < i + 1 ∧ P o = true) := fun z => by
      rcases Nat.lt_or_ge o i with w | w
      · exact q ⟨w, z.2⟩
      · have e : o = i := by omega
        have z2 := z.2
        rw [e, h] at z2
        exact Bool.noConfusion z2
    rw [if_neg q, if_neg q2]
theorem fwH_at (P : Nat → Bool) (hg : Nat → Int64) (R : zR2) (i : Nat) : fwH P hg R i i = hg i := by unfold fwH; rw [if_neg (fun z => absurd z.1 (by omega))]
def chP (hg : Nat → Int64) (ch : Nat) : Nat → Bool := fun o => decide (o = ch) || bitL (hg o) ch

/-! the Store stays whole -/
theorem stOk_ref {S : zS} {m o : Nat} {x : Int32} (h : stOk S m) (hx : x = -1 ∨ ∃ j : Nat, j < m ∧ ¬ za S 1 j = 0 ∧ x = nI j) : stOk (zA S 3 o x) m := by
  refine ⟨h.1, h.2.1, fun i hi ht => ?_, h.2.2.2⟩
  show upd (za S 3) o x i = -1 ∨ ∃ j : Nat, j < m ∧ ¬ za S 1 j = 0 ∧ upd (za S 3) o x i = nI j
  by_cases e : i = o
  · subst e; rw [pk_us]; exact hx
  · rw [pk_un e]; exact h.2.2.1 i hi ht
theorem stOk_len {S : zS} {m o n : Nat} {f : Nat → Int64} (h : stOk S m) (hn : n ≤ 8) : stOk (zA (zBw S 6 f) 4 o (nI n)) m := by
  refine ⟨h.1, h.2.1, h.2.2.1, fun i hi => ?_⟩
  show ∃ k : Nat, k ≤ 8 ∧ upd (za S 4) o (nI n) i = nI k
  by_cases e : i = o
  · subst e; rw [pk_us]; exact ⟨n, hn, rfl⟩
  · rw [pk_un e]; exact h.2.2.2 i hi
theorem stOk_drop {S : zS} {m o : Nat} (h : stOk S m) (ho : o < m) : stOk (zAw (zA (zA S 1 o 0) 4 o 0) 3 (unref (za S 3) o m)) m := by
  have hm := h.1
  refine ⟨h.1, h.2.1, fun i hi ht => ?_, fun i hi => ?_⟩
  · have ht' : ¬ upd (za S 1) o 0 i = 0 := ht
    show unref (za S 3) o m i = -1 ∨ ∃ j : Nat, j < m ∧ ¬ upd (za S 1) o 0 j = 0 ∧ unref (za S 3) o m i = nI j
    have e : ¬ i = o := fun e => by rw [e, pk_us] at ht'; exact ht' rfl
    rw [pk_un e] at ht'
    unfold unref
    rcases h.2.2.1 i hi ht' with q | ⟨j, hj, hjt, q⟩
    · left
      split
      · rfl
      · exact q
    · by_cases e2 : za S 3 i = nI o
      · left; rw [if_pos ⟨hi, e2⟩]
      · right
        have e3 : ¬ j = o := fun z => e2 (by rw [q, z])
        exact ⟨j, hj, by rw [pk_un e3]; exact hjt, by rw [if_neg (fun z => e2 z.2)]; exact q⟩
  · show ∃ k : Nat, k ≤ 8 ∧ upd (za S 4) o 0 i = nI k
    by_cases e : i = o
    · subst e; rw [pk_us]; exact ⟨0, by decide, rfl⟩
    · rw [pk_un e]; exact h.2.2.2 i hi
theorem stOk_make {S : zS} {m : Nat} {kd : Int32} (h : stOk S m) (hm : m < 60) (hz : za S 4 m = 0) : stOk (zI (zA (zA (zA S 1 m 1) 2 m kd) 3 m (-1)) 0 (nI (m + 1))) (m + 1) := by
  refine ⟨by omega, rfl, fun i hi ht => ?_, fun i hi => ?_⟩
  · have ht' : ¬ upd (za S 1) m 1 i = 0 := ht
    show upd (za S 3) m (-1) i = -1 ∨ ∃ j : Nat, j < m + 1 ∧ ¬ upd (za S 1) m 1 j = 0 ∧ upd (za S 3) m (-1) i = nI j
    by_cases e : i = m
    · subst e; rw [pk_us]; exact Or.inl rfl
    · rw [pk_un e] at ht' ⊢
      rcases h.2.2.1 i (by omega) ht' with q | ⟨j, hj, hjt, q⟩
      · exact Or.inl q
      · exact Or.inr ⟨j, by omega, by rw [pk_un (by omega)]; exact hjt, q⟩
  · show ∃ k : Nat, k ≤ 8 ∧ za S 4 i = nI k
    by_cases e : i = m
    · subst e; exact ⟨0, by decide, hz⟩
    · exact h.2.2.2 i (by omega)

/-! a new OBJECT, and one that goes -/
section CH2
variable {SM SS : zS} {m : Nat}
theorem AG_drop {o : Nat} (ho : o < 2 ^ 31) : AG SS (zAw (zA (zA SS 1 o 0) 4 o 0) 3 (unref (za SS 3) o m)) o := fun j hj => by
  refine ⟨?_, rfl, ?_, fun _ _ => rfl, fun _ _ => rfl, ?_⟩
  · show upd (za SS 1) o 0 j = _
    rw [pk_un hj]
  · show upd (za SS 4) o 0 j = _
    rw [pk_un hj]
  · by_cases e : za SS 3 j = nI o
    · left
      unfold rfO; rw [e, if_neg (nI_nm ho), nI_clamp ho]
    · right
      unfold rfO
      have u : unref (za SS 3) o m j = za SS 3 j := by unfold unref; rw [if_neg (fun z => e z.2)]
      show (if unref (za SS 3) o m j = -1 then none else some (unref (za SS 3) o m j).toNatClampNeg) = _
      rw [u]
theorem AG_make {kd : Int32} : AG SS (zI (zA (zA (zA SS 1 m 1) 2 m kd) 3 m (-1)) 0 (nI (m + 1))) m := fun j hj => by
  refine ⟨?_, ?_, rfl, fun _ _ => rfl, fun _ _ => rfl, Or.inr ?_⟩
  · show upd (za SS 1) m 1 j = _
    rw [pk_un hj]
  · show upd (za SS 2) m kd j = _
    rw [pk_un hj]
  · unfold rfO
    show (if upd (za SS 3) m (-1) j = -1 then none else some (upd (za SS 3) m (-1) j).toNatClampNeg) = _
    rw [pk_un hj]
theorem sR2_make {kd : Int32} (hm : m < 60) (h : sR2 SM SS m) : sR2 (zI (zA (zA (zA (zI SM 0 0) 2 m 1) 3 m kd) 5 m (-1)) 2 (nI (m + 1))) (zI (zA (zA (zA SS 1 m 1) 2 m kd) 3 m (-1)) 0 (nI (m + 1))) (m + 1) := by
  obtain ⟨⟨h1, h2, h3, h4, h5, h6⟩, h7, h8⟩ := h
  have hz := h8 m (Nat.le_refl _) hm
  refine ⟨⟨fun j hj ht => ?_, fun j hj ht => ?_, fun j p hj ht hp => ?_, fun j i hj ht hi => ?_, fun j hj => ?_, fun j hj => ?_⟩, fun j hj => ?_, fun j hj h60 => h8 j (by omega) h60⟩
  · have ht' : ¬ upd (za SS 1) m 1 j = 0 := ht
    show (if upd (za SM 5) m (-1) j = -1 then (-1 : Int64) else if upd (za SM 2) m 1 (upd (za SM 5) m (-1) j).toNatClampNeg = 0 then -1 else lN (upd (za SM 5) m (-1) j).toNatClampNeg) = oL (if upd (za SS 3) m (-1) j = -1 then none else some (upd (za SS 3) m (-1) j).toNatClampNeg)
    by_cases e : j = m
    · subst e; rw [pk_us, pk_us, if_pos rfl, if_pos rfl]; rfl
    · rw [pk_un e] at ht'
      rw [pk_un e, pk_un e]
      have h1' := h1 j (by omega) ht'
      unfold effL rfO at h1'
      rw [← h1']
      rcases h7 j (by omega) with q | ⟨i, hi, q⟩
      · rw [if_pos q, if_pos q]
      · have hn : ¬ za SM 5 j = -1 := by rw [q]; exact nI_nm (by omega)
        rw [if_neg hn, if_neg hn, q, nI_clamp (by omega), pk_un (by omega)]
  · show za SM 6 j = za SS 4 j
    by_cases e : j = m
    · subst e; rw [hz.1, hz.2.1]
    · have ht' : ¬ upd (za SS 1) m 1 j = 0 := ht
      rw [pk_un e] at ht'
      exact h2 j (by omega) ht'
  · show zb SM 4 (3 * j + p) = zb SS 5 (3 * j + p)
    by_cases e : j = m
    · subst e; exact hz.2.2.1 p hp
    · have ht' : ¬ upd (za SS 1) m 1 j = 0 := ht
      rw [pk_un e] at ht'
      exact h3 j p (by omega) ht' hp
  · show zb SM 7 (8 * j + i) = zb SS 6 (8 * j + i)
    by_cases e : j = m
    · subst e; exact hz.2.2.2 i hi
    · have ht' : ¬ upd (za SS 1) m 1 j = 0 := ht
      rw [pk_un e] at ht'
      exact h4 j i (by omega) ht' hi
  · show upd (za SM 2) m 1 j = 0 ↔ upd (za SS 1) m 1 j = 0
    by_cases e : j = m
    · subst e; rw [pk_us, pk_us]
    · rw [pk_un e, pk_un e]; exact h5 j (by omega)
  · show upd (za SM 3) m kd j = upd (za SS 2) m kd j
    by_cases e : j = m
    · subst e; rw [pk_us, pk_us]
    · rw [pk_un e, pk_un e]; exact h6 j (by omega)
  · show upd (za SM 5) m (-1) j = -1 ∨ ∃ i : Nat, i < m + 1 ∧ upd (za SM 5) m (-1) j = nI i
    by_cases e : j = m
    · subst e; rw [pk_us]; exact Or.inl rfl
    · rw [pk_un e]
      rcases h7 j (by omega) with q | ⟨i, hi, q⟩
      · exact Or.inl q
      · exact Or.inr ⟨i, by omega, q⟩
end CH2

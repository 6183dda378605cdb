/-! answers that only tell -/
theorem dz_put {SS : zS} {m k : Nat} {v : Int64} (h : dz SS m) : dz (zB SS 5 k v) m := h
theorem dz_item {SS : zS} {m k : Nat} {v : Int64} (h : dz SS m) : dz (zB SS 6 k v) m := h
theorem dz_ref {SS : zS} {m o : Nat} {x : Int32} (h : dz SS m) : dz (zA SS 3 o x) m := h
theorem dz_row {SS : zS} {m o nn : Nat} {f : Nat → Int64} (h : dz SS m) (ht : ¬ za SS 1 o = 0) : dz (zA (zBw SS 6 f) 4 o (nI nn)) m := fun j hj hz => by
  have hz' : za SS 1 j = 0 := hz
  show upd (za SS 4) o (nI nn) j = 0
  by_cases e : j = o
  · subst e; exact absurd hz' ht
  · rw [pk_un e]; exact h j hj hz'
theorem dz_drop {SS : zS} {m o : Nat} {f : Nat → Int32} (h : dz SS m) : dz (zAw (zA (zA SS 1 o 0) 4 o 0) 3 f) m := fun j hj hz => by
  have hz' : upd (za SS 1) o 0 j = 0 := hz
  show upd (za SS 4) o 0 j = 0
  by_cases e : j = o
  · subst e; rw [pk_us]
  · rw [pk_un e] at hz' ⊢; exact h j hj hz'
theorem dz_make {SS : zS} {m : Nat} {kd : Int32} (h : dz SS m) : dz (zI (zA (zA (zA SS 1 m 1) 2 m kd) 3 m (-1)) 0 (nI (m + 1))) (m + 1) := fun j hj hz => by
  have hz' : upd (za SS 1) m 1 j = 0 := hz
  show za SS 4 j = 0
  by_cases e : j = m
  · subst e; rw [pk_us] at hz'; exact absurd hz' (by decide)
  · rw [pk_un e] at hz'; exact h j (by omega) hz'
section ANS
variable {SM SS ST : zS} {SK SG SP : Nat → zS} {m nq : Nat} {D : Nat → Nat → zD} {G : Nat → List zNd} {lm : Nat → Nat} {sx : Nat → Nat → Nat} {c : Nat → zC}
theorem A_fL (h : REL SM SS ST SK SG SP m nq D G lm sx c) {q : Nat} (hq : q < nq) : fL SM q (qEc q (c q)) m = fD (D q) 60 := by
  obtain ⟨k1, k2, k3, -⟩ := h.2.2.1 q hq
  exact fL_fD h.1.1 h.1.2.2.2.1 k2 k3
theorem A_shown (h : REL SM SS ST SK SG SP m nq D G lm sx c) {q : Nat} (hq : q < nq) : shwN (lm q) (oD (D q)).length = shN (lm q) (fL SM q (qEc q (c q)) m).length := by
  rw [A_fL h hq, oD_len]
  unfold shwN shN
  by_cases e : lm q = 0
  · rw [if_pos e, if_pos (Or.inl e)]
  · rw [if_neg e]
    by_cases e2 : (fD (D q) 60).length < lm q
    · rw [if_pos e2, if_pos (Or.inr e2)]
    · rw [if_neg e2, if_neg (fun z => z.elim e e2)]
theorem A_in (h : REL SM SS ST SK SG SP m nq D G lm sx c) {q : Nat} (hq : q < nq) : (oD (D q)).length = (fL SM q (qEc q (c q)) m).length := by rw [A_fL h hq, oD_len]
theorem A_got (h : REL SM SS ST SK SG SP m nq D G lm sx c) {q k : Nat} {x : zRow} (hq : q < nq) (hx : (fL SM q (qEc q (c q)) m)[k]? = some x) : (oD (D q))[k]? = some x.1 ∧ zb (SK q) 3 x.1 = x.2.1 := by
  rw [A_fL h hq] at hx
  obtain ⟨k1, -⟩ := h.2.2.1 q hq
  have hm := (fD_mem (D q) 60 x).mp (List.mem_of_getElem? hx)
  exact ⟨by unfold oD; rw [List.getElem?_map, hx]; rfl, (k1.2.1.2.2 x.1 x.2.1 x.2.2.1 x.2.2.2 hm.1 hm.2).1⟩
theorem A_uses (h : REL SM SS ST SK SG SP m nq D G lm sx c) {q u : Nat} (hq : q < nq) (hu : u < 60) : ctB (fun o => bitL (zb (SK q) 1 o) u) m = usN SM q (qEc q (c q)) u m := by
  obtain ⟨k1, k2, k3, -⟩ := h.2.2.1 q hq
  exact us_eq h.1.1 h.1.2.2.2.1 k2 k3 hu m (Nat.le_refl _)
theorem A_differ (h : REL SM SS ST SK SG SP m nq D G lm sx c) {k : Nat} {w : Int32} : dfR_ SK nq k w = (match (dLs SK nq)[k]? with
    | none => -1
    | some x => tlX x w) := differ_eq (fun q hq => (h.2.2.1 q hq).2.2.2.2.1)
theorem A_th (h : REL SM SS ST SK SG SP m nq D G lm sx c) (o : Int32) : thB m (za SM 2) o = thB m (za SS 1) o := by
  have h5 := h.1.2.2.2.1.2.2.2.2.1
  have hm := h.1.1.1
  by_cases e : ∃ j : Nat, j < m ∧ o = nI j
  · obtain ⟨j, hj, rfl⟩ := e
    rw [thB_nI (by omega) hj, thB_nI (by omega) hj]
    exact decide_eq_decide.mpr (not_congr (h5 j hj))
  · rw [thB_no (by omega) e, thB_no (by omega) e]
theorem oI_L {o : Option Nat} (h : ∀ j : Nat, o = some j → j < 2 ^ 31) : (oI o).toInt64 = oL o := by
  cases o with
  | none => decide
  | some j => exact nI_l (h j rfl)
theorem A_ref (h : REL SM SS ST SK SG SP m nq D G lm sx c) {o : Nat} (ho : o < m) (ht : ¬ za SS 1 o = 0) : (za SS 3 o).toInt64 = effL SM o := by
  have hm := h.1.1.1
  have hr := rfO_ok h.1.1 ho ht
  rw [h.1.2.2.2.1.1 o ho ht, ← hr.2, oI_L (fun j hj => by have := (hr.1 j hj).1; omega)]
/-- an item of a dropped OBJECT, or of none, is refused by both -/
theorem A_noitem (h : REL SM SS ST SK SG SP m nq D G lm sx c) {o i : Int32} (hn : ¬ thB m (za SM 2) o = true) : hasB m (za SS 4) o i.toInt64 = false := by
  have hm := h.1.1.1
  rw [A_th h] at hn
  by_cases e : ∃ j : Nat, j < m ∧ o = nI j
  · obtain ⟨j, hj, rfl⟩ := e
    rw [thB_nI (by omega) hj] at hn
    have hz : za SS 1 j = 0 := Classical.byContradiction (fun z => hn (decide_eq_true z))
    rw [hasB_nI (by omega) hj, h.2.2.2.2.2.1 j hj hz]
    refine decide_eq_false (fun z => ?_)
    have e0 : ((0 : Int32).toInt64) = 0 := by decide
    rw [e0] at z
    have z1 := z.1
    have z2 := z.2
    rw [Int64.lt_iff_toInt_lt] at z1
    rw [Int64.le_iff_toInt_le] at z2
    omega
  · exact hasB_no e
end ANS

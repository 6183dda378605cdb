/-! the OBJECTS of class and reference stay the same under every CHANGE -/
def sR2 (SM SS : zS) (m : Nat) : Prop := sR SM SS m ∧ (∀ o : Nat, o < m → za SM 5 o = -1 ∨ ∃ i : Nat, i < m ∧ za SM 5 o = nI i) ∧ ∀ o : Nat, m ≤ o → o < 60 → za SM 6 o = 0 ∧ za SS 4 o = 0 ∧ (∀ p : Nat, p < 3 → zb SM 4 (3 * o + p) = zb SS 5 (3 * o + p)) ∧ ∀ i : Nat, i < 8 → zb SM 7 (8 * o + i) = zb SS 6 (8 * o + i)
theorem updL_same {f g : Nat → Int64} {i j : Nat} {v : Int64} (h : f i = g i) : vp_updL f j v i = vp_updL g j v i := by
  by_cases e : i = j
  · subst e; rw [pk_uLs, pk_uLs]
  · rw [pk_uLn e, pk_uLn e, h]
theorem upd_same {f g : Nat → Int32} {i j : Nat} {v : Int32} (h : f i = g i) : upd f j v i = upd g j v i := by
  by_cases e : i = j
  · subst e; rw [pk_us, pk_us]
  · rw [pk_un e, pk_un e, h]
theorem rfO_upd {S : zS} {o i : Nat} {x : Int32} : rfO (zA S 3 o x) i = (if i = o then (if x = -1 then none else some x.toNatClampNeg) else rfO S i) := by
  unfold rfO
  show (if upd (za S 3) o x i = -1 then none else some (upd (za S 3) o x i).toNatClampNeg) = _
  by_cases e : i = o
  · subst e; rw [pk_us, if_pos rfl]
  · rw [pk_un e, if_neg e]
section CHG
variable {SM SS : zS} {m : Nat}
theorem sR2_put {k : Nat} {v : Int64} (h : sR2 SM SS m) : sR2 (zB (zI SM 0 0) 4 k v) (zB SS 5 k v) m := by
  obtain ⟨⟨h1, h2, h3, h4, h5, h6⟩, h7, h8⟩ := h
  refine ⟨⟨h1, h2, fun o p ho ht hp => ?_, h4, h5, h6⟩, h7, fun o ho h60 => ⟨(h8 o ho h60).1, (h8 o ho h60).2.1, fun p hp => ?_, (h8 o ho h60).2.2.2⟩⟩
  · exact updL_same (f := zb SM 4) (g := zb SS 5) (h3 o p ho ht hp)
  · exact updL_same (f := zb SM 4) (g := zb SS 5) ((h8 o ho h60).2.2.1 p hp)
theorem AG_put {o p : Nat} {v : Int64} (hp : p < 3) : AG SS (zB SS 5 (3 * o + p) v) o := fun j hj => by
  refine ⟨rfl, rfl, rfl, fun r hr => ?_, fun i _ => rfl, Or.inr rfl⟩
  show vp_updL (zb SS 5) (3 * o + p) v (3 * j + r) = _
  rw [pk_uLn (by omega)]
theorem sR2_item {k : Nat} {v : Int64} (h : sR2 SM SS m) : sR2 (zB (zI SM 0 0) 7 k v) (zB SS 6 k v) m := by
  obtain ⟨⟨h1, h2, h3, h4, h5, h6⟩, h7, h8⟩ := h
  refine ⟨⟨h1, h2, h3, fun o p ho ht hp => ?_, h5, h6⟩, h7, fun o ho h60 => ⟨(h8 o ho h60).1, (h8 o ho h60).2.1, (h8 o ho h60).2.2.1, fun i hi => ?_⟩⟩
  · exact updL_same (f := zb SM 7) (g := zb SS 6) (h4 o p ho ht hp)
  · exact updL_same (f := zb SM 7) (g := zb SS 6) ((h8 o ho h60).2.2.2 i hi)
theorem AG_item {o i : Nat} {v : Int64} (hi : i < 8) : AG SS (zB SS 6 (8 * o + i) v) o := fun j hj => by
  refine ⟨rfl, rfl, rfl, fun r _ => rfl, fun r hr => ?_, Or.inr rfl⟩
  show vp_updL (zb SS 6) (8 * o + i) v (8 * j + r) = _
  rw [pk_uLn (by omega)]
theorem sR2_row {o nn : Nat} (h : sR2 SM SS m) (ho : o < m) : sR2 (zA (zBw (zI SM 0 0) 7 (clrP (zb SM 7) o nn 8)) 6 o (nI nn)) (zA (zBw SS 6 (clrP (zb SS 6) o nn 8)) 4 o (nI nn)) m := by
  obtain ⟨⟨h1, h2, h3, h4, h5, h6⟩, h7, h8⟩ := h
  have cl : ∀ {f g : Nat → Int64} {i : Nat}, f i = g i → clrP f o nn 8 i = clrP g o nn 8 i := fun {f g i} e => by
    unfold clrP; split
    · rfl
    · exact e
  refine ⟨⟨h1, fun j hj ht => ?_, h3, fun j i hj ht hi => cl (h4 j i hj ht hi), h5, h6⟩, h7, fun j hj h60 => ⟨?_, ?_, (h8 j hj h60).2.2.1, fun i hi => cl ((h8 j hj h60).2.2.2 i hi)⟩⟩
  · exact upd_same (f := za SM 6) (g := za SS 4) (h2 j hj ht)
  · show upd (za SM 6) o (nI nn) j = 0
    rw [pk_un (by omega)]; exact (h8 j hj h60).1
  · show upd (za SS 4) o (nI nn) j = 0
    rw [pk_un (by omega)]; exact (h8 j hj h60).2.1
theorem AG_row {o nn : Nat} : AG SS (zA (zBw SS 6 (clrP (zb SS 6) o nn 8)) 4 o (nI nn)) o := fun j hj => by
  refine ⟨rfl, rfl, ?_, fun r _ => rfl, fun r hr => ?_, Or.inr rfl⟩
  · show upd (za SS 4) o (nI nn) j = _
    rw [pk_un hj]
  · show clrP (zb SS 6) o nn 8 (8 * j + r) = _
    unfold clrP; rw [if_neg (by omega)]
theorem effL_ref {o i : Nat} {x : Int32} : effL (zA (zI SM 0 0) 5 o x) i = (if i = o then (if x = -1 then -1 else if za SM 2 x.toNatClampNeg = 0 then -1 else lN x.toNatClampNeg) else effL SM i) := by
  unfold effL
  show (if upd (za SM 5) o x i = -1 then (-1 : Int64) else if za SM 2 (upd (za SM 5) o x i).toNatClampNeg = 0 then -1 else lN (upd (za SM 5) o x i).toNatClampNeg) = _
  by_cases e : i = o
  · subst e; rw [pk_us, if_pos rfl]
  · rw [pk_un e, if_neg e]
theorem sR2_ref {o : Nat} {x : Int32} (h : sR2 SM SS m) (hm : m ≤ 60) (hx : x = -1 ∨ ∃ t : Nat, t < m ∧ ¬ za SS 1 t = 0 ∧ x = nI t) : sR2 (zA (zI SM 0 0) 5 o x) (zA SS 3 o x) m := by
  obtain ⟨⟨h1, h2, h3, h4, h5, h6⟩, h7, h8⟩ := h
  refine ⟨⟨fun j hj ht => ?_, h2, h3, h4, h5, h6⟩, fun j hj => ?_, h8⟩
  · rw [effL_ref, rfO_upd]
    by_cases e : j = o
    · rw [if_pos e, if_pos e]
      rcases hx with rfl | ⟨t, ht1, ht2, rfl⟩
      · rw [if_pos rfl, if_pos rfl]; rfl
      · have hn : ¬ nI t = -1 := nI_nm (by omega)
        have ht3 : ¬ za SM 2 t = 0 := fun z => ht2 ((h5 t ht1).mp z)
        rw [if_neg hn, if_neg hn, nI_clamp (by omega), if_neg ht3]; rfl
    · rw [if_neg e, if_neg e]; exact h1 j hj ht
  · show upd (za SM 5) o x j = -1 ∨ ∃ i : Nat, i < m ∧ upd (za SM 5) o x j = nI i
    by_cases e : j = o
    · subst e; rw [pk_us]
      rcases hx with q | ⟨t, ht1, -, q⟩
      · exact Or.inl q
      · exact Or.inr ⟨t, ht1, q⟩
    · rw [pk_un e]; exact h7 j hj
theorem AG_ref {o : Nat} {x : Int32} : AG SS (zA SS 3 o x) o := fun j hj => ⟨rfl, rfl, rfl, fun _ _ => rfl, fun _ _ => rfl, Or.inr (by rw [rfO_upd, if_neg hj])⟩
theorem rfO_unref {o i : Nat} (hi : i < m) (ho : o < 2 ^ 31) (hr : za SS 3 i = -1 ∨ ∃ j : Nat, j < 2 ^ 31 ∧ za SS 3 i = nI j) : (if unref (za SS 3) o m i = -1 then none else some (unref (za SS 3) o m i).toNatClampNeg) = (if rfO SS i = some o then none else rfO SS i) := by
  unfold unref rfO
  by_cases e : za SS 3 i = nI o
  · have u : (if i < m ∧ za SS 3 i = nI o then (-1 : Int32) else za SS 3 i) = -1 := if_pos ⟨hi, e⟩
    rw [u, e, if_pos rfl, if_neg (nI_nm ho), nI_clamp ho, if_pos rfl]
  · have e2 : (if i < m ∧ za SS 3 i = nI o then (-1 : Int32) else za SS 3 i) = za SS 3 i := if_neg (fun z => e z.2)
    rw [e2]
    rcases hr with q | ⟨j, hj, q⟩
    · rw [if_pos q, if_neg (by simp)]
    · have hn : ¬ za SS 3 i = -1 := by rw [q]; exact nI_nm hj
      rw [if_neg hn, q, nI_clamp hj, if_neg (fun z => e (by rw [q, Option.some.inj z]))]
theorem effL_drop {o i : Nat} (ho : o < 2 ^ 31) (hr : za SM 5 i = -1 ∨ ∃ j : Nat, j < 2 ^ 31 ∧ za SM 5 i = nI j) : effL (zA (zI SM 0 0) 2 o 0) i = (if effL SM i = lN o then -1 else effL SM i) := by
  unfold effL
  show (if za SM 5 i = -1 then (-1 : Int64) else if upd (za SM 2) o 0 (za SM 5 i).toNatClampNeg = 0 then -1 else lN (za SM 5 i).toNatClampNeg) = _
  rcases hr with q | ⟨j, hj, q⟩
  · rw [if_pos q, if_pos q]
    split <;> rfl
  · have hn : ¬ za SM 5 i = -1 := by rw [q]; exact nI_nm hj
    rw [if_neg hn, if_neg hn, q, nI_clamp hj]
    by_cases e : j = o
    · subst e
      rw [pk_us, if_pos rfl]
      by_cases z : za SM 2 j = 0
      · rw [if_pos z]; split <;> rfl
      · rw [if_neg z, if_pos rfl]
    · rw [pk_un e]
      by_cases z : za SM 2 j = 0
      · rw [if_pos z]; split <;> rfl
      · have : ¬ lN j = lN o := fun w => e (by have := congrArg Int64.toNatClampNeg w; rw [lN_clamp hj, lN_clamp ho] at this; exact this)
        rw [if_neg z, if_neg this]
theorem sR2_drop {o : Nat} (hs : stOk SS m) (h : sR2 SM SS m) (ho : o < m) : sR2 (zA (zI SM 0 0) 2 o 0) (zAw (zA (zA SS 1 o 0) 4 o 0) 3 (unref (za SS 3) o m)) m := by
  have hm := hs.1
  obtain ⟨⟨h1, h2, h3, h4, h5, h6⟩, h7, h8⟩ := h
  have tne : ∀ j : Nat, ¬ upd (za SS 1) o 0 j = 0 → ¬ j = o ∧ ¬ za SS 1 j = 0 := fun j hj => by
    have e : ¬ j = o := fun e => by rw [e, pk_us] at hj; exact hj rfl
    rw [pk_un e] at hj; exact ⟨e, hj⟩
  refine ⟨⟨fun j hj ht => ?_, fun j hj ht => ?_, fun j p hj ht hp => h3 j p hj (tne j ht).2 hp, fun j i hj ht hi => h4 j i hj (tne j ht).2 hi, fun j hj => ?_, h6⟩, h7, fun j hj h60 => ⟨(h8 j hj h60).1, ?_, (h8 j hj h60).2.2⟩⟩
  · obtain ⟨e, ht'⟩ := tne j ht
    have r1 : za SS 3 j = -1 ∨ ∃ i : Nat, i < 2 ^ 31 ∧ za SS 3 j = nI i := by
      rcases hs.2.2.1 j hj ht' with q | ⟨i, hi, -, q⟩
      · exact Or.inl q
      · exact Or.inr ⟨i, by omega, q⟩
    have r2 : za SM 5 j = -1 ∨ ∃ i : Nat, i < 2 ^ 31 ∧ za SM 5 j = nI i := by
      rcases h7 j hj with q | ⟨i, hi, q⟩
      · exact Or.inl q
      · exact Or.inr ⟨i, by omega, q⟩
    rw [effL_drop (by omega) r2, h1 j hj ht']
    have : rfO (zAw (zA (zA SS 1 o 0) 4 o 0) 3 (unref (za SS 3) o m)) j = (if rfO SS j = some o then none else rfO SS j) := rfO_unref hj (by omega) r1
    rw [this]
    cases q : rfO SS j with
    | none =>
      rw [show (if (none : Option Nat) = some o then none else none) = (none : Option Nat) from if_neg (by simp)]
      show (if (-1 : Int64) = lN o then -1 else -1) = -1
      split <;> rfl
    | some i =>
      have hi := (rfO_ok hs hj ht').1 i q
      by_cases z : i = o
      · subst z
        rw [show (if some i = some i then none else some i) = (none : Option Nat) from if_pos rfl]
        show (if lN i = lN i then (-1 : Int64) else lN i) = -1
        rw [if_pos rfl]
      · have n1 : ¬ lN i = lN o := fun w => z (by have := congrArg Int64.toNatClampNeg w; rw [lN_clamp (by omega), lN_clamp (by omega)] at this; exact this)
        rw [show (if some i = some o then none else some i) = some i from if_neg (fun w => z (Option.some.inj w))]
        show (if lN i = lN o then (-1 : Int64) else lN i) = lN i
        rw [if_neg n1]
  · obtain ⟨e, ht'⟩ := tne j ht
    show za SM 6 j = upd (za SS 4) o 0 j
    rw [pk_un e]; exact h2 j hj ht'
  · show upd (za SM 2) o 0 j = 0 ↔ upd (za SS 1) o 0 j = 0
    by_cases e : j = o
    · subst e; rw [pk_us, pk_us]
    · rw [pk_un e, pk_un e]; exact h5 j hj
  · show upd (za SS 4) o 0 j = 0
    rw [pk_un (by omega)]; exact (h8 j hj h60).2.1
end CHG

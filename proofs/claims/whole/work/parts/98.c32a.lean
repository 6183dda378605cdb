/-! what does not hang on the changed OBJECT stays -/
def AG (SS SS' : zS) (ch : Nat) : Prop := ∀ o : Nat, ¬ o = ch → za SS' 1 o = za SS 1 o ∧ za SS' 2 o = za SS 2 o ∧ za SS' 4 o = za SS 4 o ∧ (∀ p : Nat, p < 3 → zb SS' 5 (3 * o + p) = zb SS 5 (3 * o + p)) ∧ (∀ i : Nat, i < 8 → zb SS' 6 (8 * o + i) = zb SS 6 (8 * o + i)) ∧ (rfO SS o = some ch ∨ rfO SS' o = rfO SS o)
theorem wlk_c (S : zS) (k j : Nat) (b : Int64) : wlk S (k + 1) (some j) b = wlk S k (rfO S j) (note b j) := rfl
theorem evL_c (S : zS) (ro : Nat) (x : zNd) (G : List zNd) (s : zVs × Int64) : evL S ro (x :: G) s = evL S ro G (evS S ro s x) := rfl
theorem evL_nil (S : zS) (ro : Nat) (s : zVs × Int64) : evL S ro [] s = s := rfl
theorem evS_2 (S : zS) (ro : Nat) (x : zNd) (s : zVs × Int64) : (evS S ro s x).2 = (evN S ro x s).2 := rfl
section KEEP
variable {SS SS' : zS} {m ch ro : Nat}
theorem wlk_mono (hs : stOk SS m) {u : Nat} (hu : u < 60) : ∀ (k : Nat) (o : Option Nat) (b : Int64), oOk SS m o → bitL b u = true → bitL (wlk SS k o b).2 u = true
  | 0, _, _, _, h => h
  | k + 1, none, _, _, h => h
  | k + 1, some j, b, ho, h => by
    have hj := oOk_s ho
    have hm := hs.1
    refine wlk_mono hs hu k _ _ (rfO_ok hs hj.1 hj.2).1 ?_
    rw [note_t (by omega) (by omega), h]; rfl
theorem wlk_keep (hs : stOk SS m) (hA : AG SS SS' ch) (hch : ch < 60) (k : Nat) : ∀ (o : Option Nat) (b : Int64), oOk SS m o → ¬ o = some ch → ¬ (wlk SS k o b).1 = some ch → bitL (wlk SS k o b).2 ch = false → wlk SS' k o b = wlk SS k o b := by
  induction k with
  | zero => intro o b _ _ _ _; rfl
  | succ k ih =>
    intro o b ho hne h1 h2
    cases o with
    | none => rfl
    | some j =>
      have hj := oOk_s ho
      have hm := hs.1
      have hjc : ¬ j = ch := fun e => hne (by rw [e])
      have hok := (rfO_ok hs hj.1 hj.2).1
      rw [wlk_c] at h1 h2
      have h1' := h1
      have h2' := h2
      have hr : ¬ rfO SS j = some ch := fun e => by
        rw [e] at h1' h2' hok
        cases k with
        | zero => exact h1' rfl
        | succ k =>
          have hc := oOk_s hok
          have h3 : bitL (wlk SS k (rfO SS ch) (note (note b j) ch)).2 ch = true := wlk_mono hs hch k _ _ (rfO_ok hs hc.1 hc.2).1 (by rw [note_t (by omega) (by omega)]; simp)
          rw [wlk_c, h3] at h2'; exact Bool.noConfusion h2'
      have e : rfO SS' j = rfO SS j := by
        rcases (hA j hjc).2.2.2.2.2 with q | q
        · exact absurd q hr
        · exact q
      rw [wlk_c, wlk_c, e]
      exact ih _ _ hok hr h1 h2
theorem fldV_a (S : zS) (j : Nat) : fldV S 97 j = zb S 5 (3 * j + 0) := by unfold fldV; rw [if_neg (by decide), if_neg (by decide)]
theorem fldV_b (S : zS) (j : Nat) : fldV S 98 j = zb S 5 (3 * j + 1) := by unfold fldV; rw [if_neg (by decide), if_neg (by decide)]
theorem fldV_c (S : zS) (j : Nat) : fldV S 99 j = zb S 5 (3 * j + 2) := by unfold fldV; rw [if_neg (by decide), if_neg (by decide)]
theorem fldV_i (S : zS) (j : Nat) : fldV S 105 j = lN j := by unfold fldV; rw [if_neg (by decide), if_pos rfl]
theorem fldV_n (S : zS) (j : Nat) : fldV S 110 j = (za S 4 j).toInt64 := by unfold fldV; rw [if_pos rfl]
theorem evN_mono (hs : stOk SS m) (hro : ro < m) (hrt : ¬ za SS 1 ro = 0) {u : Nat} (hu : u < 60) (x : zNd) (s : zVs × Int64) (h : bitL s.2 u = true) : bitL (evN SS ro x s).2 u = true := by
  have hm := hs.1
  have W := fun k => wlk_mono hs hu k (some ro) s.2 (oOk_i hro hrt) h
  have K := fun k => wlk_ok hs k (some ro) s.2 (oOk_i hro hrt)
  unfold evN
  split
  · exact h
  · split
    · unfold evF
      have w := W x.2.1.toNatClampNeg
      have k := K x.2.1.toNatClampNeg
      revert w k
      cases wlk SS x.2.1.toNatClampNeg (some ro) s.2 with
      | mk a b =>
        cases a with
        | none => exact fun w _ => w
        | some j =>
          intro w k
          show bitL (note b j) u = true
          have := oOk_s k
          have w' : bitL b u = true := w
          rw [note_t (by omega) (by omega), w']; rfl
    · split
      · unfold evT
        have w := W x.2.1.toNatClampNeg
        have k := K x.2.1.toNatClampNeg
        revert w k
        cases wlk SS x.2.1.toNatClampNeg (some ro) s.2 with
        | mk a b =>
          cases a with
          | none => exact fun w _ => w
          | some j =>
            intro w k
            show bitL (note b j) u = true
            have := oOk_s k
            have w' : bitL b u = true := w
            rw [note_t (by omega) (by omega), w']; rfl
      · exact h
theorem evN_keep (hs : stOk SS m) (hA : AG SS SS' ch) (hch : ch < 60) (hro : ro < m) (hrt : ¬ za SS 1 ro = 0) (hne : ¬ ro = ch) (x : zNd) (s : zVs × Int64) (hb : bitL (evN SS ro x s).2 ch = false) : evN SS' ro x s = evN SS ro x s := by
  have hm := hs.1
  have hK := fun k => wlk_ok hs k (some ro) s.2 (oOk_i hro hrt)
  have hW := fun k => wlk_keep hs hA hch k (some ro) s.2 (oOk_i hro hrt) (fun e => hne (Option.some.inj e))
  unfold evN at hb ⊢
  by_cases h1 : x.1 = 48
  · rw [if_pos h1, if_pos h1]
  rw [if_neg h1] at hb
  rw [if_neg h1, if_neg h1]
  by_cases h2 : isF x.1
  · rw [if_pos h2] at hb
    rw [if_pos h2, if_pos h2]
    have k := hK x.2.1.toNatClampNeg
    have w := hW x.2.1.toNatClampNeg
    revert k w hb
    cases wlk SS x.2.1.toNatClampNeg (some ro) s.2 with
    | mk a b =>
      cases a with
      | none =>
        intro hb k w
        rw [w (by simp) hb]; rfl
      | some j =>
        intro hb k w
        have hj := oOk_s k
        have hb' : bitL (note b j) ch = false := hb
        rw [note_t (by omega) (by omega)] at hb'
        have hb2 := Bool.or_eq_false_iff.mp hb'
        have hjc : ¬ j = ch := of_decide_eq_false hb2.2
        rw [w (fun e => hjc (Option.some.inj e)) hb2.1]
        show ((fldV SS' x.1 j, false), note b j) = ((fldV SS x.1 j, false), note b j)
        have : fldV SS' x.1 j = fldV SS x.1 j := by
          have a := hA j hjc
          rcases h2 with e | e | e | e | e <;> rw [e]
          · rw [fldV_a, fldV_a]; exact a.2.2.2.1 0 (by decide)
          · rw [fldV_b, fldV_b]; exact a.2.2.2.1 1 (by decide)
          · rw [fldV_c, fldV_c]; exact a.2.2.2.1 2 (by decide)
          · rw [fldV_i, fldV_i]
          · rw [fldV_n, fldV_n, a.2.2.1]
        rw [this]
  · rw [if_neg h2] at hb
    rw [if_neg h2, if_neg h2]
    by_cases h3 : x.1 = 116
    · rw [if_pos h3] at hb
      rw [if_pos h3, if_pos h3]
      have k := hK x.2.1.toNatClampNeg
      have w := hW x.2.1.toNatClampNeg
      revert k w hb
      cases wlk SS x.2.1.toNatClampNeg (some ro) s.2 with
      | mk a b =>
        cases a with
        | none =>
          intro hb k w
          rw [w (by simp) hb]; rfl
        | some j =>
          intro hb k w
          have hj := oOk_s k
          have hb' : bitL (note b j) ch = false := hb
          rw [note_t (by omega) (by omega)] at hb'
          have hb2 := Bool.or_eq_false_iff.mp hb'
          have hjc : ¬ j = ch := of_decide_eq_false hb2.2
          rw [w (fun e => hjc (Option.some.inj e)) hb2.1]
          show ((if (gV s.1 x.2.2).2 then ((0, true) : Int64 × Bool) else itmV SS' j (gV s.1 x.2.2).1), note b j) = ((if (gV s.1 x.2.2).2 then ((0, true) : Int64 × Bool) else itmV SS j (gV s.1 x.2.2).1), note b j)
          have a := hA j hjc
          have : itmV SS' j (gV s.1 x.2.2).1 = itmV SS j (gV s.1 x.2.2).1 := by
            unfold itmV
            rw [a.2.2.1]
            by_cases hc : ¬ (gV s.1 x.2.2).1 < 0 ∧ ¬ (za SS 4 j).toInt64 ≤ (gV s.1 x.2.2).1
            · rw [if_pos hc, if_pos hc]
              obtain ⟨q, hq, e, -, -⟩ := has_q hs hj.1 hc.1 hc.2
              rw [e, lN_clamp (by omega), a.2.2.2.2.1 q hq]
            · rw [if_neg hc, if_neg hc]
          rw [this]
    · rw [if_neg h3, if_neg h3]
theorem evL_mono (hs : stOk SS m) (hro : ro < m) (hrt : ¬ za SS 1 ro = 0) {u : Nat} (hu : u < 60) : ∀ (G : List zNd) (s : zVs × Int64), bitL s.2 u = true → bitL (evL SS ro G s).2 u = true
  | [], _, h => h
  | x :: G, s, h => by
    rw [evL_c]
    exact evL_mono hs hro hrt hu G (evS SS ro s x) (by rw [evS_2]; exact evN_mono hs hro hrt hu x s h)
theorem evL_keep (hs : stOk SS m) (hA : AG SS SS' ch) (hch : ch < 60) (hro : ro < m) (hrt : ¬ za SS 1 ro = 0) (hne : ¬ ro = ch) (G : List zNd) : ∀ s : zVs × Int64, bitL (evL SS ro G s).2 ch = false → evL SS' ro G s = evL SS ro G s := by
  induction G with
  | nil => intro s _; rw [evL_nil, evL_nil]
  | cons x G ih =>
    intro s h
    rw [evL_c] at h
    have hx : bitL (evN SS ro x s).2 ch = false := Bool.eq_false_iff.mpr (fun e => by
      have h3 := evL_mono hs hro hrt hch G (evS SS ro s x) (by rw [evS_2]; exact e)
      exact Bool.eq_false_iff.mp h h3)
    have e1 : evS SS' ro s x = evS SS ro s x := by
      unfold evS; rw [evN_keep hs hA hch hro hrt hne x s hx]
    rw [evL_c, evL_c, e1]
    exact ih _ h
theorem row_keep {SP : zS} {G : List zNd} {o : Nat} (hs : stOk SS m) (hA : AG SS SS' ch) (hch : ch < 60) (ho : o < m) (hne : ¬ o = ch) (hb : bitL (rowR SS SP G o).2 ch = false) : rowR SS' SP G o = rowR SS SP G o := by
  have a := hA o hne
  show rowD SS' (zi SP 1) (zi SP 3) (zi SP 4) (zi SP 5) (zi SP 6) G o = rowD SS (zi SP 1) (zi SP 3) (zi SP 4) (zi SP 5) (zi SP 6) G o
  have hb' : bitL (rowD SS (zi SP 1) (zi SP 3) (zi SP 4) (zi SP 5) (zi SP 6) G o).2 ch = false := hb
  unfold rowD at hb' ⊢
  rw [a.1, a.2.1]
  by_cases hc : ¬ za SS 1 o = 0 ∧ za SS 2 o = zi SP 1
  · rw [if_pos hc] at hb'
    rw [if_pos hc, if_pos hc, evL_keep hs hA hch ho hc.1 hne G _ hb']
  · rw [if_neg hc, if_neg hc]
/-- after a CHANGE all rows are as if worked out anew -/
theorem fw_all {SP : zS} {G : List zNd} {D : Nat → zD} {hg : Nat → Int64} {m' : Nat} (hs : stOk SS m) (hA : AG SS SS' ch) (hch : ch < 60) (hD : ∀ o : Nat, o < m → D o = (rowR SS SP G o).1) (hH : ∀ o : Nat, o < m → hg o = (rowR SS SP G o).2) (hm' : m ≤ m') (hc' : ∀ o : Nat, m ≤ o → o < m' → o = ch) : ∀ o : Nat, o < m' → fwD (chP hg ch) D (rowR SS' SP G) m' o = (rowR SS' SP G o).1 ∧ fwH (chP hg ch) hg (rowR SS' SP G) m' o = (rowR SS' SP G o).2 := by
  intro o ho
  unfold fwD fwH
  cases e : chP hg ch o with
  | true => rw [if_pos ⟨ho, rfl⟩, if_pos ⟨ho, rfl⟩]; exact ⟨rfl, rfl⟩
  | false =>
    rw [if_neg (fun z => by cases z.2), if_neg (fun z => by cases z.2)]
    unfold chP at e
    have e2 := Bool.or_eq_false_iff.mp e
    have hne : ¬ o = ch := of_decide_eq_false e2.1
    have hom : o < m := by
      rcases Nat.lt_or_ge o m with z | z
      · exact z
      · exact absurd (hc' o z ho) hne
    rw [hD o hom, hH o hom, row_keep hs hA hch hom hne (by rw [← hH o hom]; exact e2.2)]
    exact ⟨rfl, rfl⟩
end KEEP

/-! what a ROW comes to, apart from what lay on the stack before -/
theorem Ct.mono {l : Launch} {y : MethodName} {b : ByteArray} {nl : Nat} {rt : Option FieldType} {rm : Room} {E : zE} {w0 : va_W} {as : List Value} {post post' : Option Value → va_W → Prop} (h : Ct l y b nl rt rm E w0 as post) (hp : ∀ v w, post v w → post' v w) : Ct l y b nl rt rm E w0 as post' := by
  intro sz p e ha hc hk s m args below hf happ hP hK
  obtain ⟨k, o, h1, h2, h3, ⟨⟨v, w1, q1, q2, q3⟩, q4⟩, q5⟩ := h sz p e ha hc hk s m args below hf happ hP hK
  exact ⟨k, o, h1, h2, h3, ⟨⟨v, w1, q1, hp v w1 q2, q3⟩, q4⟩, q5⟩
def cv (S : zS) : zS := (fun _ => 0, fun _ => 0, fun i => if i = 2 then za S 2 else if i = 5 then za S 5 else if i = 6 then za S 6 else if i = 11 then za S 11 else if i = 12 then za S 12 else fun _ => 0, fun i => if i = 4 then zb S 4 else if i = 7 then zb S 7 else fun _ => 0)
theorem rst_cv (S : zS) : rst S = rst (cv S) := rfl
theorem cOp_cv (S : zS) : cOp S = cOp (cv S) := rfl
theorem rrn_cv (S : zS) (ro : Nat) : ∀ (n a : Nat) (t : List Bool) (p : zP), rrn S ro a n t p = rrn (cv S) ro a n t p
  | 0, _, _, _ => rfl
  | n + 1, a, t, p => by
    simp only [rrn]
    rw [show cOp S a = cOp (cv S) a from rfl]
    cases wt (cOp (cv S) a) t with
    | none => rfl
    | some t' => exact rrn_cv S ro n (a + 1) t' _
theorem tyr_cv (S : zS) : ∀ (n a : Nat) (t : List Bool), tyr S a n t = tyr (cv S) a n t
  | 0, _, _ => rfl
  | n + 1, a, t => by
    simp only [tyr]
    rw [show cOp S a = cOp (cv S) a from rfl]
    cases wt (cOp (cv S) a) t with
    | none => rfl
    | some t' => exact tyr_cv S n (a + 1) t'
theorem wkp_cv (S : zS) (ro : Nat) (e : Nat → Nat) (p : zP) : ∀ f : Nat, wkp S ro e p f = wkp (cv S) ro e p f
  | 0 => rfl
  | f + 1 => by
    simp only [wkp]
    rw [wkp_cv S ro e p f, rrn_cv]
/-- the same but for what lies above the stack's height and behind the OBJECTS -/
def pe (t : List Bool) (p p' : zP) : Prop := p.1 = p'.1 ∧ (∀ i : Nat, i < t.length → p.2.1 i = p'.2.1 i) ∧ ∀ o : Nat, o < 60 → p.2.2 o = p'.2.2 o
theorem pe_set {t : List Bool} {b : Bool} {ab ab' : Int32} {f f' : Nat → Int64} {hg hg' : Nat → Int32} {v v' : Int64} (h1 : ab = ab') (h2 : ∀ i : Nat, i < t.length → f i = f' i) (hv : v = v') (h3 : ∀ o : Nat, o < 60 → hg o = hg' o) : pe (b :: t) (ab, vp_updL f t.length v, hg) (ab', vp_updL f' t.length v', hg') := by
  refine ⟨h1, fun i hi => ?_, h3⟩
  simp only [List.length_cons] at hi
  show vp_updL f t.length v i = vp_updL f' t.length v' i
  by_cases q : i = t.length
  · subst q; rw [pk_uLs, pk_uLs, hv]
  · rw [pk_uLn q, pk_uLn q]; exact h2 i (by omega)
theorem pe_hg {hg hg' : Nat → Int32} {j : Nat} (h : ∀ o : Nat, o < 60 → hg o = hg' o) : ∀ o : Nat, o < 60 → upd hg j 1 o = upd hg' j 1 o := fun o ho => by
  by_cases q : o = j
  · subst q; rw [pk_us, pk_us]
  · rw [pk_un q, pk_un q]; exact h o ho
theorem pe_step {S : zS} {ro op : Nat} {num : Int32} {p p' : zP} {t t' : List Bool} (hw : wt op t = some t') (h : pe t p p') : pe t' (rst S ro op num (t'.length - 1) p) (rst S ro op num (t'.length - 1) p') := by
  obtain ⟨ab, f, hg⟩ := p
  obtain ⟨ab', f', hg'⟩ := p'
  obtain ⟨h1, h2, h3⟩ := h
  dsimp only at h1 h2 h3
  subst h1
  by_cases h0 : op = 0
  · subst h0; cases hw
    exact pe_set rfl h2 rfl h3
  by_cases hh1 : op = 1
  · subst hh1; cases hw
    exact pe_set rfl h2 rfl h3
  cases t with
  | nil => simp [wt, h0, hh1] at hw
  | cons b t =>
    have e0 : f t.length = f' t.length := h2 _ (by simp)
    have g2 : ∀ i : Nat, i < t.length → f i = f' i := fun i hi => h2 i (by simp; omega)
    cases b with
    | true =>
      have ht : ∃ c, t' = c :: t := by
        by_cases q2 : op = 2
        · simp [wt, q2] at hw; exact ⟨_, hw.symm⟩
        · by_cases q3 : 3 ≤ op ∧ op ≤ 7
          · simp [wt, h0, hh1, q2, q3] at hw; exact ⟨_, hw.symm⟩
          · simp [wt, h0, hh1, q2, q3] at hw
      obtain ⟨c, rfl⟩ := ht
      have hop : op ≤ 7 := by
        by_cases q2 : op = 2
        · omega
        · by_cases q3 : 3 ≤ op ∧ op ≤ 7
          · omega
          · simp [wt, h0, hh1, q2, q3] at hw
      simp only [rst, List.length_cons, Nat.add_sub_cancel, if_neg h0, if_neg hh1, ← e0]
      repeat' split
      all_goals first | exact pe_set rfl g2 rfl h3 | exact pe_set rfl g2 rfl (pe_hg h3) | omega
    | false =>
      by_cases h9 : op = 9
      · subst h9; cases hw
        exact pe_set rfl g2 (congrArg (fun x => -x) e0) h3
      by_cases h21 : op = 21
      · subst h21; cases hw
        exact pe_set rfl g2 (congrArg (fun x => 1 - x) e0) h3
      cases t with
      | nil => simp [wt, h0, hh1, h9, h21] at hw
      | cons b t =>
        have e1 : f (t.length + 1) = f' (t.length + 1) := h2 _ (by simp)
        have e2 : f t.length = f' t.length := h2 _ (by simp; omega)
        have g3 : ∀ i : Nat, i < t.length → f i = f' i := fun i hi => h2 i (by simp; omega)
        have ht' : t' = false :: t := by
          cases b with
          | true =>
            by_cases h8 : op = 8
            · simp [wt, h8] at hw; exact hw.symm
            · simp [wt, h0, hh1, h9, h21, h8] at hw
          | false =>
            by_cases hb : 10 ≤ op ∧ op ≤ 20
            · simp [wt, h0, hh1, h9, h21, hb] at hw; exact hw.symm
            · simp [wt, h0, hh1, h9, h21, hb] at hw
        subst ht'
        simp only [rst, List.length_cons, Nat.add_sub_cancel, ← e1, ← e2]
        repeat' split
        all_goals first | exact pe_set rfl g3 rfl h3 | exact pe_set rfl g3 rfl (pe_hg h3)
theorem pe_run {S : zS} {ro : Nat} : ∀ (n a : Nat) (t tf : List Bool) (p p' : zP), tyr S a n t = some tf → pe t p p' → pe tf (rrn S ro a n t p) (rrn S ro a n t p')
  | 0, _, t, tf, p, p', ht, h => by cases ht; exact h
  | n + 1, a, t, tf, p, p', ht, h => by
    obtain ⟨t', hw, ht⟩ := tyr_s ht
    rw [rrn_s hw, rrn_s hw]
    exact pe_run n (a + 1) t' tf _ _ ht (pe_step hw h)
theorem pe_nil {tf : List Bool} {p p' : zP} (h : pe tf p p') : pe [] p p' := ⟨h.1, fun i hi => absurd hi (by simp), h.2.2⟩
theorem pe_wkp {S : zS} {ro q : Nat} {e : Nat → Nat} (hq : qok S q e) {p p' : zP} (h : pe [] p p') : ∀ f : Nat, f ≤ 4 → pe [] (wkp S ro e p f) (wkp S ro e p' f)
  | 0, _ => h
  | f + 1, hf => pe_nil (pe_run _ _ _ _ _ _ (hq.2.2.2.2.2 f (by omega)) (pe_wkp hq h f (by omega)))
/-- the canonical run -/
abbrev c0 : zP := (0, fun _ => 0, fun _ => 0)
def wC (S : zS) (ro : Nat) (e : Nat → Nat) (f : Nat) : zP := wkp (cv S) ro e c0 f
def wCm (S : zS) (ro : Nat) (e : Nat → Nat) (f : Nat) : Int64 := wkm (cv S) ro e c0 f
/-- the ROW is IN -/
def wIn (S : zS) (ro : Nat) (e : Nat → Nat) : Bool := decide ((wC S ro e 4).1 = 0 ∧ ¬ wCm S ro e 0 = 0)
theorem qok_cv {S : zS} {q : Nat} {e : Nat → Nat} (h : qok S q e) {f : Nat} (hf : f < 4) : tyr (cv S) (e f) (e (f + 1) - e f) [] = some (if e (f + 1) = e f then [] else [false]) := by
  rw [← tyr_cv]; exact h.2.2.2.2.2 f hf
theorem wk_pe {S : zS} {ro q : Nat} {e : Nat → Nat} (hq : qok S q e) {f : Nat} (hf : f ≤ 4) : pe [] (wkp S ro e (wk0 S) f) (wC S ro e f) := by
  unfold wC
  rw [← wkp_cv]
  have h0 : pe [] (wk0 S) c0 := ⟨rfl, fun i hi => absurd hi (by simp), fun o ho => by show hgz (za S 16) 60 o = 0; simp [hgz, ho]⟩
  exact pe_wkp hq h0 f hf
theorem wk_m {S : zS} {ro q : Nat} {e : Nat → Nat} (hq : qok S q e) {f : Nat} (hf : f < 4) : wkm S ro e (wk0 S) f = wCm S ro e f := by
  unfold wCm wkm
  by_cases h : e (f + 1) = e f
  · rw [if_pos h, if_pos h]
  · rw [if_neg h, if_neg h]
    have hp := pe_run (S := S) (ro := ro) _ _ _ _ _ _ (hq.2.2.2.2.2 f hf) (wk_pe (ro := ro) hq (f := f) (by omega))
    rw [if_neg h] at hp
    have := hp.2.1 0 (by simp)
    show (rrn S ro (e f) (e (f + 1) - e f) [] (wkp S ro e (wk0 S) f)).2.1 0 = (rrn (cv S) ro (e f) (e (f + 1) - e f) [] (wkp (cv S) ro e c0 f)).2.1 0
    rw [this, rrn_cv]
    rfl
theorem wkmd_at {S : zS} {ro q : Nat} {e : Nat → Nat} (hq : qok S q e) {f : Nat} (hf : f < 4) : wkmd S ro e f = wCm S ro e f := by
  rw [← wk_m hq hf]
  rcases (show f = 0 ∨ f = 1 ∨ f = 2 ∨ f = 3 by omega) with rfl | rfl | rfl | rfl <;> simp [wkmd, vp_updL]
theorem c_X8_work2 (l : Launch) (E : zE) (r : Nat → Nat) (S : zS) (q ro : Nat) (e : Nat → Nat) (hq : q < 6) (hro : ro < 60) (hqo : qok S q e) (ho : objOk S) :
    Ct l yX8_work cX8_work 6 (some .boolean) ({ frames := 3, cells := 0, slots := 0, locals := 95 } : Room) E (mw E r S) [.ref (r 0), .int (nI q), .int (nI ro)] (fun v_ w_ => ∃ hh : Int32, ∃ ab : Int32, ∃ f : Nat → Int64, ∃ hg : Nat → Int32, ∃ md : Nat → Int64, v_ = some (.int (bI (wIn S ro e))) ∧ w_ = mw E r (mwk S hh ab f hg md) ∧ (∀ i : Nat, i < 4 → md i = wCm S ro e i) ∧ (∀ o : Nat, o < 60 → hg o = (wC S ro e 4).2.2 o)) := by
  refine Ct.mono (c_X8_work l E r S q ro e hq hro hqo ho) ?_
  rintro v w ⟨rfl, rfl⟩
  have hp := wk_pe (ro := ro) hqo (f := 4) (by decide)
  refine ⟨_, _, _, _, _, ?_, rfl, fun i hi => wkmd_at hqo hi, hp.2.2⟩
  rw [wIn, hp.1, wk_m hqo (by decide)]

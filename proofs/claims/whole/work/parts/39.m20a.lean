/-! type -/
def mty (S : zS) (t : Int32) (tape : Nat → Int32) : zS := (fun i => if i = 1 then t else S.1 i, S.2.1, fun i => if i = 1 then tape else S.2.2.1 i, S.2.2.2)
def byI (w : Int64) (k : Nat) : Int32 := ((w >>> ((nI (8 * k)).toInt64 &&& 63)) &&& 255).toInt32
def okB (w : Int64) (k : Nat) : Bool := decide (¬ byI w k < 33 ∧ byI w k ≤ 126)
theorem m1_s (j : Nat) : nI j + Int32.ofInt (-1) = nI j - 1 := by
  rw [show Int32.ofInt (-1) = -1 from by decide, Int32.sub_eq_add_neg]
theorem m1_neg : nI 0 - 1 < 0 := by decide
theorem qok_new {S' : zS} {nq : Nat} {c0 c1 c2 c3 : List (Nat × Nat)} (hl : laid (za S' 11) (za S' 12) (240 * nq) (((c0 ++ c1) ++ c2) ++ c3)) (hb : (((c0 ++ c1) ++ c2) ++ c3).length ≤ 160) (hx : ∀ x ∈ ((c0 ++ c1) ++ c2) ++ c3, x.1 < 2 ^ 31)
    (e0 : za S' 10 (4 * nq) = nI (240 * nq + c0.length)) (e1 : za S' 10 (4 * nq + 1) = nI (240 * nq + (c0 ++ c1).length)) (e2 : za S' 10 (4 * nq + 2) = nI (240 * nq + ((c0 ++ c1) ++ c2).length)) (e3 : za S' 10 (4 * nq + 3) = nI (240 * nq + (((c0 ++ c1) ++ c2) ++ c3).length))
    (w0 : wtl c0 [] = some (if c0 = [] then [] else [false])) (w1 : wtl c1 [] = some (if c1 = [] then [] else [false])) (w2 : wtl c2 [] = some (if c2 = [] then [] else [false])) (w3 : wtl c3 [] = some (if c3 = [] then [] else [false])) :
    qok S' nq (fun f => if f = 0 then 240 * nq else if f = 1 then 240 * nq + c0.length else if f = 2 then 240 * nq + (c0 ++ c1).length else if f = 3 then 240 * nq + ((c0 ++ c1) ++ c2).length else 240 * nq + (((c0 ++ c1) ++ c2) ++ c3).length) := by
  have hop : ∀ i x, (((c0 ++ c1) ++ c2) ++ c3)[i]? = some x → za S' 11 (240 * nq + i) = nI x.1 ∧ cOp S' (240 * nq + i) = x.1 := by
    intro i x h
    have h1 := (hl i x h).1
    refine ⟨h1, ?_⟩
    unfold cOp
    rw [h1]
    exact nI_clamp (hx x (List.mem_of_getElem? h))
  have run : ∀ (c pre post : List (Nat × Nat)) (t : List Bool), (((c0 ++ c1) ++ c2) ++ c3) = pre ++ (c ++ post) → tyr S' (240 * nq + pre.length) c.length t = wtl c t := by
    intro c
    induction c with
    | nil => intro pre post t _; rfl
    | cons x c ih =>
      intro pre post t he
      have hi := (hop pre.length x (by rw [he]; simp)).2
      show (match wt (cOp S' (240 * nq + pre.length)) t with
        | none => none
        | some t' => tyr S' (240 * nq + pre.length + 1) c.length t') = match wt x.1 t with
        | none => none
        | some t' => wtl c t'
      rw [hi]
      cases wt x.1 t with
      | none => rfl
      | some t' =>
        have := ih (pre ++ [x]) post t' (by rw [he]; simp)
        rw [List.length_append] at this
        exact this
  simp only [List.length_append] at *
  refine ⟨rfl, fun f hf => ?_, ?_, fun f hf => ?_, fun k h1 h2 => ?_, fun f hf => ?_⟩
  · rcases (show f = 0 ∨ f = 1 ∨ f = 2 ∨ f = 3 by omega) with rfl | rfl | rfl | rfl <;> simp <;> omega
  · simp; omega
  · rcases (show f = 0 ∨ f = 1 ∨ f = 2 ∨ f = 3 by omega) with rfl | rfl | rfl | rfl
    · simpa using e0
    · simpa using e1
    · simpa using e2
    · simpa using e3
  · simp at h2
    obtain ⟨i, rfl⟩ : ∃ i, k = 240 * nq + i := ⟨k - 240 * nq, by omega⟩
    have hlt : i < (((c0 ++ c1) ++ c2) ++ c3).length := by simp; omega
    obtain ⟨ha, hb2⟩ := hop i _ (List.getElem?_eq_getElem hlt)
    rw [hb2]; exact ha
  · have nil_iff : ∀ {c : List (Nat × Nat)}, (c = []) ↔ c.length = 0 := fun {c} => by cases c <;> simp
    rcases (show f = 0 ∨ f = 1 ∨ f = 2 ∨ f = 3 by omega) with rfl | rfl | rfl | rfl
    · have := run c0 [] (c1 ++ (c2 ++ c3)) [] (by simp)
      simp only [List.length_nil, Nat.add_zero] at this
      simp only [if_true, Nat.zero_add, Nat.add_sub_cancel_left, show ¬ (1 : Nat) = 0 by decide, if_false]
      rw [this, w0]
      congr 1
      by_cases h : c0 = []
      · subst h; simp
      · rw [if_neg h, if_neg (by rw [nil_iff] at h; omega)]
    · have := run c1 c0 (c2 ++ c3) [] (by simp)
      simp only [if_true, if_false, show ¬ (1 : Nat) = 0 by decide, show ¬ (1 + 1 : Nat) = 0 by decide, show ¬ (1 + 1 : Nat) = 1 by decide, show (1 + 1 : Nat) = 2 by decide]
      rw [show 240 * nq + (c0.length + c1.length) - (240 * nq + c0.length) = c1.length by omega, this, w1]
      congr 1
      by_cases h : c1 = []
      · subst h; simp
      · rw [if_neg h, if_neg (by rw [nil_iff] at h; omega)]
    · have := run c2 (c0 ++ c1) c3 [] (by simp)
      rw [List.length_append] at this
      simp only [if_true, if_false, show ¬ (2 : Nat) = 0 by decide, show ¬ (2 : Nat) = 1 by decide, show ¬ (2 + 1 : Nat) = 0 by decide, show ¬ (2 + 1 : Nat) = 1 by decide, show ¬ (2 + 1 : Nat) = 2 by decide, show (2 + 1 : Nat) = 3 by decide]
      rw [show 240 * nq + (c0.length + c1.length + c2.length) - (240 * nq + (c0.length + c1.length)) = c2.length by omega, this, w2]
      congr 1
      by_cases h : c2 = []
      · subst h; simp
      · rw [if_neg h, if_neg (by rw [nil_iff] at h; omega)]
    · have := run c3 ((c0 ++ c1) ++ c2) [] [] (by simp)
      rw [List.length_append, List.length_append] at this
      simp only [if_true, if_false, show ¬ (3 : Nat) = 0 by decide, show ¬ (3 : Nat) = 1 by decide, show ¬ (3 : Nat) = 2 by decide, show ¬ (3 + 1 : Nat) = 0 by decide, show ¬ (3 + 1 : Nat) = 1 by decide, show ¬ (3 + 1 : Nat) = 2 by decide, show ¬ (3 + 1 : Nat) = 3 by decide]
      rw [show 240 * nq + (c0.length + c1.length + c2.length + c3.length) - (240 * nq + (c0.length + c1.length + c2.length)) = c3.length by omega, this, w3]
      congr 1
      by_cases h : c3 = []
      · subst h; simp
      · rw [if_neg h, if_neg (by rw [nil_iff] at h; omega)]

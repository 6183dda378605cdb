/-! the reference's run over a QUERY's code, as a run over lists -/
theorem wt_len {op : Nat} {t t' : List Bool} (h : wt op t = some t') : t'.length = hx op t.length ∧ op ≤ 21 := by
  unfold wt at h
  by_cases h0 : op = 0
  · rw [if_pos h0] at h; cases h; subst h0; exact ⟨rfl, by decide⟩
  rw [if_neg h0] at h
  by_cases h1 : op = 1
  · rw [if_pos h1] at h; cases h; subst h1; exact ⟨rfl, by decide⟩
  rw [if_neg h1] at h
  match t, h with
  | [], h => cases h
  | true :: t, h =>
    dsimp only at h
    by_cases h2 : op = 2
    · rw [if_pos h2] at h; cases h; subst h2; exact ⟨rfl, by decide⟩
    · rw [if_neg h2] at h
      by_cases h3 : 3 ≤ op ∧ op ≤ 7
      · rw [if_pos h3] at h; cases h
        refine ⟨?_, by omega⟩
        unfold hx; rw [if_neg (by omega), if_neg (by omega)]; rfl
      · rw [if_neg h3] at h; cases h
  | false :: t, h =>
    dsimp only at h
    by_cases h9 : op = 9 ∨ op = 21
    · rw [if_pos h9] at h; cases h
      refine ⟨?_, by omega⟩
      unfold hx; rw [if_neg (by omega), if_neg (by omega)]
    · rw [if_neg h9] at h
      match t, h with
      | [], h => cases h
      | true :: t, h =>
        dsimp only at h
        by_cases h8 : op = 8
        · rw [if_pos h8] at h; cases h; subst h8; exact ⟨rfl, by decide⟩
        · rw [if_neg h8] at h; cases h
      | false :: t, h =>
        dsimp only at h
        by_cases hp : 10 ≤ op ∧ op ≤ 20
        · rw [if_pos hp] at h; cases h
          refine ⟨?_, by omega⟩
          unfold hx; rw [if_neg (by omega), if_pos (Or.inr hp)]; simp
        · rw [if_neg hp] at h; cases h
theorem wtl_le : ∀ (c : List (Nat × Nat)) (t t' : List Bool), wtl c t = some t' → ∀ x ∈ c, x.1 ≤ 21
  | [], _, _, _, x, hx => absurd hx (by simp)
  | y :: c, t, t', h, x, hx => by
    unfold wtl at h
    cases e : wt y.1 t with
    | none => rw [e] at h; cases h
    | some t1 =>
      rw [e] at h
      rcases List.mem_cons.mp hx with q | q
      · rw [q]; exact (wt_len e).2
      · exact wtl_le c t1 t' h x q
theorem rh_cv (S : zS) (ro : Nat) : ∀ (c : List (Nat × Nat)) (h : Nat) (p : zP), rh (cv S) ro c h p = rh S ro c h p
  | [], _, _ => rfl
  | x :: c, h, p => rh_cv S ro c _ _
theorem run_rh {S : zS} {ro b : Nat} {full : List (Nat × Nat)} (hl : laid (za S 11) (za S 12) b full) : ∀ (c pre post : List (Nat × Nat)) (t t' : List Bool) (p : zP), full = pre ++ (c ++ post) → wtl c t = some t' → rrn S ro (b + pre.length) c.length t p = rh S ro c t.length p := by
  intro c
  induction c with
  | nil => intro pre post t t' p _ _; rfl
  | cons x c ih =>
    intro pre post t t' p he hw
    have hlx := hl pre.length x (by rw [he]; simp)
    have hop : cOp S (b + pre.length) = x.1 := by
      have := wtl_le _ _ _ hw x List.mem_cons_self
      unfold cOp; rw [hlx.1]; exact nI_clamp (by omega)
    unfold wtl at hw
    cases e : wt x.1 t with
    | none => rw [e] at hw; cases hw
    | some t1 =>
      rw [e] at hw
      show rrn S ro (b + pre.length) (c.length + 1) t p = rh S ro c (hx x.1 t.length) (rst S ro x.1 (nI x.2) (hx x.1 t.length - 1) p)
      rw [rrn_s (by rw [hop]; exact e), hop, hlx.2, ← (wt_len e).1]
      have := ih (pre ++ [x]) post t1 t' (rst S ro x.1 (nI x.2) (t1.length - 1) p) (by rw [he]; simp) hw
      rw [List.length_append] at this
      exact this
abbrev qE (nq : Nat) (c0 c1 c2 c3 : List (Nat × Nat)) : Nat → Nat := fun f => if f = 0 then 240 * nq else if f = 1 then 240 * nq + c0.length else if f = 2 then 240 * nq + (c0 ++ c1).length else if f = 3 then 240 * nq + ((c0 ++ c1) ++ c2).length else 240 * nq + (((c0 ++ c1) ++ c2) ++ c3).length
theorem wC_rh {S : zS} {nq ro : Nat} {c0 c1 c2 c3 : List (Nat × Nat)} (hl : laid (za S 11) (za S 12) (240 * nq) (((c0 ++ c1) ++ c2) ++ c3)) {t0 t1 t2 t3 : List Bool} (w0 : wtl c0 [] = some t0) (w1 : wtl c1 [] = some t1) (w2 : wtl c2 [] = some t2) (w3 : wtl c3 [] = some t3) :
    wC S ro (qE nq c0 c1 c2 c3) 1 = rh S ro c0 0 ((0, fun _ => 0, fun _ => 0) : zP) ∧ wC S ro (qE nq c0 c1 c2 c3) 2 = rh S ro c1 0 (wC S ro (qE nq c0 c1 c2 c3) 1) ∧ wC S ro (qE nq c0 c1 c2 c3) 3 = rh S ro c2 0 (wC S ro (qE nq c0 c1 c2 c3) 2) ∧ wC S ro (qE nq c0 c1 c2 c3) 4 = rh S ro c3 0 (wC S ro (qE nq c0 c1 c2 c3) 3) := by
  have hlc : laid (za (cv S) 11) (za (cv S) 12) (240 * nq) (((c0 ++ c1) ++ c2) ++ c3) := hl
  refine ⟨?_, ?_, ?_, ?_⟩
  · rw [← rh_cv]
    show rrn (cv S) ro (240 * nq) (240 * nq + c0.length - 240 * nq) [] ((0, fun _ => 0, fun _ => 0) : zP) = _
    rw [Nat.add_sub_cancel_left]
    exact run_rh hlc c0 [] (c1 ++ (c2 ++ c3)) [] t0 _ (by simp) w0
  · rw [← rh_cv]
    show rrn (cv S) ro (240 * nq + c0.length) (240 * nq + (c0 ++ c1).length - (240 * nq + c0.length)) [] (wC S ro (qE nq c0 c1 c2 c3) 1) = _
    rw [List.length_append, show 240 * nq + (c0.length + c1.length) - (240 * nq + c0.length) = c1.length by omega]
    exact run_rh hlc c1 c0 (c2 ++ c3) [] t1 _ (by simp) w1
  · rw [← rh_cv]
    show rrn (cv S) ro (240 * nq + (c0 ++ c1).length) (240 * nq + ((c0 ++ c1) ++ c2).length - (240 * nq + (c0 ++ c1).length)) [] (wC S ro (qE nq c0 c1 c2 c3) 2) = _
    rw [List.length_append (as := c0 ++ c1), show 240 * nq + ((c0 ++ c1).length + c2.length) - (240 * nq + (c0 ++ c1).length) = c2.length by omega]
    exact run_rh hlc c2 (c0 ++ c1) c3 [] t2 _ (by simp) w2
  · rw [← rh_cv]
    show rrn (cv S) ro (240 * nq + ((c0 ++ c1) ++ c2).length) (240 * nq + (((c0 ++ c1) ++ c2) ++ c3).length - (240 * nq + ((c0 ++ c1) ++ c2).length)) [] (wC S ro (qE nq c0 c1 c2 c3) 3) = _
    rw [List.length_append (as := (c0 ++ c1) ++ c2), show 240 * nq + (((c0 ++ c1) ++ c2).length + c3.length) - (240 * nq + ((c0 ++ c1) ++ c2).length) = c3.length by omega]
    exact run_rh hlc c3 ((c0 ++ c1) ++ c2) [] [] t3 _ (by simp) w3

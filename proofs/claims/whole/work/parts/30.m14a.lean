/-! the reader's other methods: ways to read the pure one backwards -/
theorem lp_end2 {E : zE} {r : Nat → Nat} {S : zS} {nq op a p2 : Nat} {cd nm cd2 nm2 : Nat → Int32} {c0 cc : List (Nat × Nat)} {b : Bool} {pp : Nat} (he1 : true = b) (he2 : p2 = pp) (he3 : c0 = cc) (hg : agr (240 * nq + a) cd nm cd2 nm2) (hl : laid cd2 nm2 (240 * nq + a) c0) {x y : Int32} (hx : x = nI (a + c0.length)) (hy : y = nI op) : ppost E r S nq op a cd nm (b, pp, cc) (some (.int 1)) (mw E r (mps S (nI p2) x y cd2 nm2)) := by
  subst he1; subst he2; subst he3; subst hx; subst hy
  exact ⟨_, _, _, _, rfl, rfl, hg, fun _ => ⟨rfl, rfl, hl⟩⟩
section INV
variable {sx : Nat → Nat} {k p op : Nat} {R : zRs}
theorem p10_rn (h : ps sx (k + 1) 10 p op = some R) (h1 : sx p = 114) (h2 : ¬ sx (p + 1) = 46) : R = (false, p + 1, []) := by
  have h3 : (if sx p = 114 then (if sx (p + 1) = 46 then _ else _) else _) = some R := h
  rw [if_pos h1, if_neg h2] at h3; cases h3; rfl
theorem p10_ry (h : ps sx (k + 1) 10 p op = some R) (h1 : sx p = 114) (h2 : sx (p + 1) = 46) : ∃ R5, ps sx k 10 (p + 2) op = some R5 ∧ R = (R5.1, R5.2.1, [(2, 0)] ++ R5.2.2) := by
  have h3 : (if sx p = 114 then (if sx (p + 1) = 46 then _ else _) else _) = some R := h
  rw [if_pos h1, if_pos h2] at h3; exact pcat_inv h3
theorem p10_tn (h : ps sx (k + 1) 10 p op = some R) (h1 : ¬ sx p = 114) (h2 : sx p = 116) (h3 : ¬ sx (p + 1) = 91 ∨ op = 12) : R = (false, p + 1, []) := by
  have h4 : (if sx p = 114 then _ else if sx p = 116 then (if ¬ sx (p + 1) = 91 ∨ op = 12 then _ else _) else _) = some R := h
  rw [if_neg h1, if_pos h2, if_pos h3] at h4; cases h4; rfl
theorem p10_ty (h : ps sx (k + 1) 10 p op = some R) (h1 : ¬ sx p = 114) (h2 : sx p = 116) (h3 : ¬ (¬ sx (p + 1) = 91 ∨ op = 12)) : pthen (ps sx k 5 (p + 2) (op + 1)) (fun p c => clo sx 93 p (c ++ [(8, 0)])) = some R := by
  have h4 : (if sx p = 114 then _ else if sx p = 116 then (if ¬ sx (p + 1) = 91 ∨ op = 12 then _ else _) else _) = some R := h
  rw [if_neg h1, if_pos h2, if_neg h3] at h4; exact h4
theorem p10_f0 (h : ps sx (k + 1) 10 p op = some R) (h1 : ¬ sx p = 114) (h2 : ¬ sx p = 116) (h3 : fldO (sx p) = 0) : R = (false, p, []) := by
  have h4 : (if sx p = 114 then _ else if sx p = 116 then _ else if fldO (sx p) = 0 then _ else _) = some R := h
  rw [if_neg h1, if_neg h2, if_pos h3] at h4; cases h4; rfl
theorem p10_f (h : ps sx (k + 1) 10 p op = some R) (h1 : ¬ sx p = 114) (h2 : ¬ sx p = 116) {f : Nat} (h3 : fldO (sx p) = f) (hf : ¬ f = 0) : R = (true, p + 1, [(f, 0)]) := by
  have h4 : (if sx p = 114 then _ else if sx p = 116 then _ else if fldO (sx p) = 0 then _ else _) = some R := h
  rw [if_neg h1, if_neg h2, if_neg (by rw [h3]; exact hf), h3] at h4; cases h4; rfl
theorem p9_mn (h : ps sx (k + 1) 9 p op = some R) (h1 : sx p = 45) (h2 : op = 12) : R = (false, p, []) := by
  have h4 : (if sx p = 45 then (if op = 12 then _ else _) else _) = some R := h
  rw [if_pos h1, if_pos h2] at h4; cases h4; rfl
theorem p9_my (h : ps sx (k + 1) 9 p op = some R) (h1 : sx p = 45) (h2 : ¬ op = 12) : pthen (ps sx k 9 (p + 1) (op + 1)) (fun p c => some (true, p, c ++ [(9, 0)])) = some R := by
  have h4 : (if sx p = 45 then (if op = 12 then _ else _) else _) = some R := h
  rw [if_pos h1, if_neg h2] at h4; exact h4
theorem p9_pn (h : ps sx (k + 1) 9 p op = some R) (h0 : ¬ sx p = 45) (h1 : sx p = 40) (h2 : op = 12) : R = (false, p, []) := by
  have h4 : (if sx p = 45 then _ else if sx p = 40 then (if op = 12 then _ else _) else _) = some R := h
  rw [if_neg h0, if_pos h1, if_pos h2] at h4; cases h4; rfl
theorem p9_py (h : ps sx (k + 1) 9 p op = some R) (h0 : ¬ sx p = 45) (h1 : sx p = 40) (h2 : ¬ op = 12) : pthen (ps sx k 5 (p + 1) (op + 1)) (fun p c => clo sx 41 p c) = some R := by
  have h4 : (if sx p = 45 then _ else if sx p = 40 then (if op = 12 then _ else _) else _) = some R := h
  rw [if_neg h0, if_pos h1, if_neg h2] at h4; exact h4
theorem p9_d (h : ps sx (k + 1) 9 p op = some R) (h0 : ¬ sx p = 45) (h1 : ¬ sx p = 40) (h2 : isD (sx p) = true) : R = (!isD (sx (dgs sx 9 p 0).1), (dgs sx 9 p 0).1, [(0, (dgs sx 9 p 0).2)]) := by
  have h4 : (if sx p = 45 then _ else if sx p = 40 then _ else if isD (sx p) = true then _ else _) = some R := h
  rw [if_neg h0, if_neg h1, if_pos h2] at h4; cases h4; rfl
theorem p9_x (h : ps sx (k + 1) 9 p op = some R) (h0 : ¬ sx p = 45) (h1 : ¬ sx p = 40) (h2 : isD (sx p) = false) : pcat [(1, 0)] (ps sx k 10 p op) = some R := by
  have h4 : (if sx p = 45 then _ else if sx p = 40 then _ else if isD (sx p) = true then _ else _) = some R := h
  rw [if_neg h0, if_neg h1, if_neg (by rw [h2]; decide)] at h4; exact h4
theorem p4_mn (h : ps sx (k + 1) 4 p op = some R) (h1 : sx p = 33) (h2 : op = 12) : R = (false, p, []) := by
  have h4 : (if sx p = 33 then (if op = 12 then _ else _) else _) = some R := h
  rw [if_pos h1, if_pos h2] at h4; cases h4; rfl
theorem p4_my (h : ps sx (k + 1) 4 p op = some R) (h1 : sx p = 33) (h2 : ¬ op = 12) : pthen (ps sx k 4 (p + 1) (op + 1)) (fun p c => some (true, p, c ++ [(21, 0)])) = some R := by
  have h4 : (if sx p = 33 then (if op = 12 then _ else _) else _) = some R := h
  rw [if_pos h1, if_neg h2] at h4; exact h4
theorem p4_pn (h : ps sx (k + 1) 4 p op = some R) (h0 : ¬ sx p = 33) (h1 : sx p = 123) (h2 : op = 12) : R = (false, p, []) := by
  have h4 : (if sx p = 33 then _ else if sx p = 123 then (if op = 12 then _ else _) else _) = some R := h
  rw [if_neg h0, if_pos h1, if_pos h2] at h4; cases h4; rfl
theorem p4_py (h : ps sx (k + 1) 4 p op = some R) (h0 : ¬ sx p = 33) (h1 : sx p = 123) (h2 : ¬ op = 12) : pthen (ps sx k 0 (p + 1) (op + 1)) (fun p c => clo sx 125 p c) = some R := by
  have h4 : (if sx p = 33 then _ else if sx p = 123 then (if op = 12 then _ else _) else _) = some R := h
  rw [if_neg h0, if_pos h1, if_neg h2] at h4; exact h4
theorem p4_c (h : ps sx (k + 1) 4 p op = some R) (h0 : ¬ sx p = 33) (h1 : ¬ sx p = 123) : pthen (ps sx k 5 p op) (fun p c => if sx p = 61 ∨ sx p = 35 ∨ sx p = 60 ∨ sx p = 62 then pthen (ps sx k 5 (p + 1) op) (fun p' c' => some (true, p', c ++ (c' ++ [(cmpO (sx p), 0)]))) else some (false, p, c)) = some R := by
  have h4 : (if sx p = 33 then _ else if sx p = 123 then _ else _) = some R := h
  rw [if_neg h0, if_neg h1] at h4; exact h4
end INV
theorem clo_y {sx : Nat → Nat} {x p : Nat} {c : List (Nat × Nat)} {R : zRs} (h : clo sx x p c = some R) (hc : sx p = x) : R = (true, p + 1, c) := by
  unfold clo at h; rw [if_pos hc, decide_eq_true hc] at h; cases h; rfl
theorem clo_n {sx : Nat → Nat} {x p : Nat} {c : List (Nat × Nat)} {R : zRs} (h : clo sx x p c = some R) (hc : ¬ sx p = x) : R = (false, p, c) := by
  unfold clo at h; rw [if_neg hc, decide_eq_false hc] at h; cases h; rfl
/-- what stands behind mm signs -/
def wrO (x mm : Nat) (R R4 : zRs) : Prop := R4.1 = R.1 ∧ R4.2.1 = R.2.1 ∧ (R4.1 = true → R4.2.2 ++ List.replicate mm (x, 0) = R.2.2)
theorem wrO_0 (x : Nat) (R : zRs) : wrO x 0 R R := ⟨rfl, rfl, fun _ => by simp⟩
theorem wrO_s {x mm : Nat} {R R4 : zRs} {r : Option zRs} (h : wrO x mm R R4) (hp : pthen r (fun p c => some (true, p, c ++ [(x, 0)])) = some R4) : ∃ R5, r = some R5 ∧ wrO x (mm + 1) R R5 := by
  obtain ⟨p1, c1, ⟨h1, h2⟩ | ⟨h1, h2⟩⟩ := pthen_inv hp
  · subst h2
    exact ⟨_, h1, h.1, h.2.1, fun q => Bool.noConfusion q⟩
  · cases h2
    refine ⟨_, h1, h.1, h.2.1, fun _ => ?_⟩
    have := h.2.2 rfl
    dsimp only at this ⊢
    rw [← this, List.append_assoc]
    rfl
theorem rep_s (x j : Nat) : List.replicate (j + 1) ((x, 0) : Nat × Nat) = List.replicate j (x, 0) ++ [(x, 0)] := List.replicate_succ'

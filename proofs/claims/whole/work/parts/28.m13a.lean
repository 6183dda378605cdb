/-! the reader's methods: contracts by the reader's fuel -/
abbrev prm (n : Nat) : Room := { frames := n + 4, cells := 0, slots := 0, locals := 40 * n + 100 }
def laid (cd nm : Nat → Int32) (b : Nat) (c : List (Nat × Nat)) : Prop := ∀ i x, c[i]? = some x → cd (b + i) = nI x.1 ∧ nm (b + i) = nI x.2
def agr (b : Nat) (cd nm cd' nm' : Nat → Int32) : Prop := ∀ k : Nat, k < b → cd' k = cd k ∧ nm' k = nm k
theorem agr_rf (b : Nat) (cd nm : Nat → Int32) : agr b cd nm cd nm := fun _ _ => ⟨rfl, rfl⟩
theorem agr_tr {b b' : Nat} {c1 n1 c2 n2 c3 n3 : Nat → Int32} (h1 : agr b c1 n1 c2 n2) (hb : b ≤ b') (h2 : agr b' c2 n2 c3 n3) : agr b c1 n1 c3 n3 := fun k hk => ⟨(h2 k (by omega)).1.trans (h1 k hk).1, (h2 k (by omega)).2.trans (h1 k hk).2⟩
theorem agr_lay {b k : Nat} {c1 n1 c2 n2 : Nat → Int32} {x y : Int32} (h1 : agr b c1 n1 c2 n2) (hb : b ≤ k) : agr b c1 n1 (upd c2 k x) (upd n2 k y) := fun j hj => by rw [pk_un (by omega), pk_un (by omega)]; exact h1 j hj
theorem laid_nil (cd nm : Nat → Int32) (b : Nat) : laid cd nm b [] := fun i x h => by simp at h
theorem laid_app {q a : Nat} {c1 c2 : List (Nat × Nat)} {cd1 nm1 cd2 nm2 : Nat → Int32} (h1 : laid cd1 nm1 (q + a) c1) (hg : agr (q + (a + c1.length)) cd1 nm1 cd2 nm2) (h2 : laid cd2 nm2 (q + (a + c1.length)) c2) : laid cd2 nm2 (q + a) (c1 ++ c2) := by
  intro i x hx
  by_cases hi : i < c1.length
  · rw [List.getElem?_append_left hi] at hx
    have := hg (q + a + i) (by omega)
    rw [this.1, this.2]
    exact h1 i x hx
  · rw [List.getElem?_append_right (by omega)] at hx
    have := h2 (i - c1.length) x hx
    rw [show q + (a + c1.length) + (i - c1.length) = q + a + i by omega] at this
    exact this
theorem laid_lay {q a : Nat} {c : List (Nat × Nat)} {cd nm : Nat → Int32} {o v : Nat} (h : laid cd nm (q + a) c) : laid (upd cd (q + (a + c.length)) (nI o)) (upd nm (q + (a + c.length)) (nI v)) (q + a) (c ++ [(o, v)]) := by
  refine laid_app h (agr_lay (agr_rf _ _ _) (Nat.le_refl _)) ?_
  intro i x hx
  have hi : i < 1 := (List.getElem?_eq_some_iff.mp hx).1
  have : i = 0 := by omega
  subst this
  cases hx
  rw [Nat.add_zero, pk_us, pk_us]
  exact ⟨rfl, rfl⟩
def ppost (E : zE) (r : Nat → Nat) (S : zS) (nq op a : Nat) (cd nm : Nat → Int32) (R : zRs) : Option Value → va_W → Prop := fun v_ w_ => ∃ a' : Int32, ∃ op' : Int32, ∃ cd' : Nat → Int32, ∃ nm' : Nat → Int32, v_ = some (.int (bI R.1)) ∧ w_ = mw E r (mps S (nI R.2.1) a' op' cd' nm') ∧ (agr (240 * nq + a) cd nm cd' nm') ∧ (R.1 = true → a' = nI (a + R.2.2.length) ∧ op' = nI op ∧ laid cd' nm' (240 * nq + a) R.2.2)
def pC (l : Launch) (E : zE) (r : Nat → Nat) (S : zS) (nq tp : Nat) (y : MethodName) (b : ByteArray) (nl : Nat) (H : Nat → Nat → zRs → Prop) (n : Nat) : Prop := ∀ (p op a : Nat) (cd nm : Nat → Int32) (R : zRs), H p op R → p ≤ tp → a ≤ 2 * p → op ≤ 12 → Ct l y b nl (some .boolean) (prm n) E (mw E r (mps S (nI p) (nI a) (nI op) cd nm)) [.ref (r 0)] (ppost E r S nq op a cd nm R)
section PCS
variable {l : Launch} {E : zE} {r : Nat → Nat} {S : zS} {nq tp : Nat} {y : MethodName} {b : ByteArray} {nl : Nat} {H : Nat → Nat → zRs → Prop} {n p op a p1 : Nat} {cd nm : Nat → Int32} {c1 : List (Nat × Nat)}
theorem pC_y (h : pC l E r S nq tp y b nl H n) (hH : H p op (true, p1, c1)) (hp : p ≤ tp) (ha : a ≤ 2 * p) (ho : op ≤ 12) : Ct l y b nl (some .boolean) (prm n) E (mw E r (mps S (nI p) (nI a) (nI op) cd nm)) [.ref (r 0)] (fun v_ w_ => ∃ cd' : Nat → Int32, ∃ nm' : Nat → Int32, v_ = some (.int 1) ∧ w_ = mw E r (mps S (nI p1) (nI (a + c1.length)) (nI op) cd' nm') ∧ (agr (240 * nq + a) cd nm cd' nm') ∧ (laid cd' nm' (240 * nq + a) c1)) := by
  refine Ct.mono (h p op a cd nm _ hH hp ha ho) ?_
  rintro v w ⟨a', op', cd', nm', rfl, rfl, h1, h2⟩
  obtain ⟨rfl, rfl, h3⟩ := h2 rfl
  exact ⟨cd', nm', rfl, rfl, h1, h3⟩
theorem pC_n (h : pC l E r S nq tp y b nl H n) (hH : H p op (false, p1, c1)) (hp : p ≤ tp) (ha : a ≤ 2 * p) (ho : op ≤ 12) : Ct l y b nl (some .boolean) (prm n) E (mw E r (mps S (nI p) (nI a) (nI op) cd nm)) [.ref (r 0)] (fun v_ w_ => ∃ a' : Int32, ∃ op' : Int32, ∃ cd' : Nat → Int32, ∃ nm' : Nat → Int32, v_ = some (.int 0) ∧ w_ = mw E r (mps S (nI p1) a' op' cd' nm') ∧ (agr (240 * nq + a) cd nm cd' nm')) := by
  refine Ct.mono (h p op a cd nm _ hH hp ha ho) ?_
  rintro v w ⟨a', op', cd', nm', rfl, rfl, h1, -⟩
  exact ⟨a', op', cd', nm', rfl, rfl, h1⟩
end PCS
theorem ps_two {sx : Nat → Nat} {r1 : Option zRs} {g : Nat → Option zRs} {R : zRs} (h : pthen r1 (fun p c => pcat c (g p)) = some R) : ∃ p1 c1, (r1 = some (false, p1, c1) ∧ R = (false, p1, c1)) ∨ (r1 = some (true, p1, c1) ∧ ∃ R2, g p1 = some R2 ∧ R = (R2.1, R2.2.1, c1 ++ R2.2.2)) := by
  obtain ⟨p1, c1, h1 | ⟨h1, h2⟩⟩ := pthen_inv h
  · exact ⟨p1, c1, Or.inl h1⟩
  · obtain ⟨R2, h3, h4⟩ := pcat_inv h2
    exact ⟨p1, c1, Or.inr ⟨h1, R2, h3, h4⟩⟩
/-- a loop's step: another one of these, or its end -/
def lpS (r1 : Option zRs) (g : Nat → Option zRs) (x : Nat) (R : zRs) : Prop := ∃ p1 c1, (r1 = some (false, p1, c1) ∧ R = (false, p1, c1)) ∨ (r1 = some (true, p1, c1) ∧ ∃ R2, g p1 = some R2 ∧ R = (R2.1, R2.2.1, (c1 ++ [(x, 0)]) ++ R2.2.2))
theorem lpS_of {r1 : Option zRs} {g : Nat → Option zRs} {x : Nat} {R : zRs} (h : pthen r1 (fun p c => pcat (c ++ [(x, 0)]) (g p)) = some R) : lpS r1 g x R := by
  obtain ⟨p1, c1, h1 | ⟨h1, h2⟩⟩ := pthen_inv h
  · exact ⟨p1, c1, Or.inl h1⟩
  · obtain ⟨R2, h3, h4⟩ := pcat_inv h2
    exact ⟨p1, c1, Or.inr ⟨h1, R2, h3, h4⟩⟩
theorem ps_1y {sx : Nat → Nat} {n p op : Nat} {R : zRs} (h : ps sx (n + 1) 1 p op = some R) (hc : sx p = 124) : lpS (ps sx n 2 (p + 1) op) (fun p => ps sx n 1 p op) 20 R := lpS_of (by have h2 : (if sx p = 124 then _ else _) = some R := h; rw [if_pos hc] at h2; exact h2)
theorem ps_1n {sx : Nat → Nat} {n p op : Nat} {R : zRs} (h : ps sx (n + 1) 1 p op = some R) (hc : ¬ sx p = 124) : R = (true, p, []) := by have h2 : (if sx p = 124 then _ else _) = some R := h; rw [if_neg hc] at h2; cases h2; rfl
theorem ps_3y {sx : Nat → Nat} {n p op : Nat} {R : zRs} (h : ps sx (n + 1) 3 p op = some R) (hc : sx p = 38) : lpS (ps sx n 4 (p + 1) op) (fun p => ps sx n 3 p op) 19 R := lpS_of (by have h2 : (if sx p = 38 then _ else _) = some R := h; rw [if_pos hc] at h2; exact h2)
theorem ps_3n {sx : Nat → Nat} {n p op : Nat} {R : zRs} (h : ps sx (n + 1) 3 p op = some R) (hc : ¬ sx p = 38) : R = (true, p, []) := by have h2 : (if sx p = 38 then _ else _) = some R := h; rw [if_neg hc] at h2; cases h2; rfl
theorem ps_6y {sx : Nat → Nat} {n p op : Nat} {R : zRs} (h : ps sx (n + 1) 6 p op = some R) (hc : sx p = 43 ∨ sx p = 45) : lpS (ps sx n 7 (p + 1) op) (fun p => ps sx n 6 p op) (addO (sx p)) R := lpS_of (by have h2 : (if sx p = 43 ∨ sx p = 45 then _ else _) = some R := h; rw [if_pos hc] at h2; exact h2)
theorem ps_6n {sx : Nat → Nat} {n p op : Nat} {R : zRs} (h : ps sx (n + 1) 6 p op = some R) (hc : ¬ (sx p = 43 ∨ sx p = 45)) : R = (true, p, []) := by have h2 : (if sx p = 43 ∨ sx p = 45 then _ else _) = some R := h; rw [if_neg hc] at h2; cases h2; rfl
theorem ps_8y {sx : Nat → Nat} {n p op : Nat} {R : zRs} (h : ps sx (n + 1) 8 p op = some R) (hc : sx p = 42 ∨ sx p = 47 ∨ sx p = 37) : lpS (ps sx n 9 (p + 1) op) (fun p => ps sx n 8 p op) (mulO (sx p)) R := lpS_of (by have h2 : (if sx p = 42 ∨ sx p = 47 ∨ sx p = 37 then _ else _) = some R := h; rw [if_pos hc] at h2; exact h2)
theorem ps_8n {sx : Nat → Nat} {n p op : Nat} {R : zRs} (h : ps sx (n + 1) 8 p op = some R) (hc : ¬ (sx p = 42 ∨ sx p = 47 ∨ sx p = 37)) : R = (true, p, []) := by have h2 : (if sx p = 42 ∨ sx p = 47 ∨ sx p = 37 then _ else _) = some R := h; rw [if_neg hc] at h2; cases h2; rfl
section LPE
variable {E : zE} {r : Nat → Nat} {S : zS} {nq op a p2 : Nat} {cd nm cd2 nm2 : Nat → Int32} {c0 cc : List (Nat × Nat)} {b : Bool} {pp : Nat} {a' op' : Int32}
theorem lp_end (he1 : true = b) (he2 : p2 = pp) (he3 : c0 ++ [] = cc) (hg : agr (240 * nq + a) cd nm cd2 nm2) (hl : laid cd2 nm2 (240 * nq + a) c0) : ppost E r S nq op a cd nm (b, pp, cc) (some (.int 1)) (mw E r (mps S (nI p2) (nI (a + c0.length)) (nI op) cd2 nm2)) := by
  subst he1; subst he2
  rw [List.append_nil] at he3
  subst he3
  exact ⟨_, _, _, _, rfl, rfl, hg, fun _ => ⟨rfl, rfl, hl⟩⟩
theorem lp_fail (he1 : false = b) (he2 : p2 = pp) (hg : agr (240 * nq + a) cd nm cd2 nm2) : ppost E r S nq op a cd nm (b, pp, cc) (some (.int 0)) (mw E r (mps S (nI p2) a' op' cd2 nm2)) := by
  subst he1; subst he2
  exact ⟨_, _, _, _, rfl, rfl, hg, fun h => Bool.noConfusion h⟩
theorem lp_ok (hg : agr (240 * nq + a) cd nm cd2 nm2) (hl : laid cd2 nm2 (240 * nq + a) c0) {x : Int32} (hx : x = nI (a + c0.length)) : ppost E r S nq op a cd nm (true, p2, c0) (some (.int 1)) (mw E r (mps S (nI p2) x (nI op) cd2 nm2)) := by
  subst hx
  exact ⟨_, _, _, _, rfl, rfl, hg, fun _ => ⟨rfl, rfl, hl⟩⟩
end LPE

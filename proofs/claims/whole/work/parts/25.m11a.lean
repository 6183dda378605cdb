/-! reading: a pure reader of the TAPE; (did it, where it stands, what is laid) -/
abbrev zRs : Type := Bool × Nat × List (Nat × Nat)
def pcat (c : List (Nat × Nat)) (r : Option zRs) : Option zRs := r.map (fun x => (x.1, x.2.1, c ++ x.2.2))
def pthen (r : Option zRs) (f : Nat → List (Nat × Nat) → Option zRs) : Option zRs := match r with
  | none => none
  | some (false, p, c) => some (false, p, c)
  | some (true, p, c) => f p c
theorem pcat_inv {c : List (Nat × Nat)} {r : Option zRs} {R : zRs} (h : pcat c r = some R) : ∃ R', r = some R' ∧ R = (R'.1, R'.2.1, c ++ R'.2.2) := by
  cases r with
  | none => cases h
  | some R' => cases h; exact ⟨R', rfl, rfl⟩
theorem pthen_inv {r : Option zRs} {f : Nat → List (Nat × Nat) → Option zRs} {R : zRs} (h : pthen r f = some R) : ∃ p c, (r = some (false, p, c) ∧ R = (false, p, c)) ∨ (r = some (true, p, c) ∧ f p c = some R) := by
  match r, h with
  | none, h => cases h
  | some (false, p, c), h => cases h; exact ⟨p, c, Or.inl ⟨rfl, rfl⟩⟩
  | some (true, p, c), h => exact ⟨p, c, Or.inr ⟨rfl, h⟩⟩
def isD (c : Nat) : Bool := decide (48 ≤ c ∧ c ≤ 57)
def dgs (sx : Nat → Nat) : Nat → Nat → Nat → Nat × Nat
  | 0, p, v => (p, v)
  | k + 1, p, v => if isD (sx p) then dgs sx k (p + 1) (10 * v + sx p - 48) else (p, v)
def fldO (c : Nat) : Nat := if c = 97 then 3 else if c = 98 then 4 else if c = 99 then 5 else if c = 110 then 6 else if c = 105 then 7 else 0
def cmpO (c : Nat) : Nat := if c = 61 then 15 else if c = 35 then 16 else if c = 60 then 17 else 18
def mulO (c : Nat) : Nat := if c = 42 then 12 else if c = 47 then 13 else 14
def addO (c : Nat) : Nat := if c = 43 then 10 else 11
def clo (sx : Nat → Nat) (ch p : Nat) (c : List (Nat × Nat)) : Option zRs := some (decide (sx p = ch), (if sx p = ch then p + 1 else p), c)
def ps (sx : Nat → Nat) : Nat → Nat → Nat → Nat → Option zRs
  | 0, _, _, _ => none
  | n + 1, md, p, op =>
    if md = 0 then pthen (ps sx n 2 p op) (fun p c => pcat c (ps sx n 1 p op))
    else if md = 1 then (if sx p = 124 then pthen (ps sx n 2 (p + 1) op) (fun p c => pcat (c ++ [(20, 0)]) (ps sx n 1 p op)) else some (true, p, []))
    else if md = 2 then pthen (ps sx n 4 p op) (fun p c => pcat c (ps sx n 3 p op))
    else if md = 3 then (if sx p = 38 then pthen (ps sx n 4 (p + 1) op) (fun p c => pcat (c ++ [(19, 0)]) (ps sx n 3 p op)) else some (true, p, []))
    else if md = 4 then
      (if sx p = 33 then (if op = 12 then some (false, p, []) else pthen (ps sx n 4 (p + 1) (op + 1)) (fun p c => some (true, p, c ++ [(21, 0)])))
      else if sx p = 123 then (if op = 12 then some (false, p, []) else pthen (ps sx n 0 (p + 1) (op + 1)) (fun p c => clo sx 125 p c))
      else pthen (ps sx n 5 p op) (fun p c => if sx p = 61 ∨ sx p = 35 ∨ sx p = 60 ∨ sx p = 62 then pthen (ps sx n 5 (p + 1) op) (fun p' c' => some (true, p', c ++ (c' ++ [(cmpO (sx p), 0)]))) else some (false, p, c)))
    else if md = 5 then pthen (ps sx n 7 p op) (fun p c => pcat c (ps sx n 6 p op))
    else if md = 6 then (if sx p = 43 ∨ sx p = 45 then pthen (ps sx n 7 (p + 1) op) (fun p' c => pcat (c ++ [(addO (sx p), 0)]) (ps sx n 6 p' op)) else some (true, p, []))
    else if md = 7 then pthen (ps sx n 9 p op) (fun p c => pcat c (ps sx n 8 p op))
    else if md = 8 then (if sx p = 42 ∨ sx p = 47 ∨ sx p = 37 then pthen (ps sx n 9 (p + 1) op) (fun p' c => pcat (c ++ [(mulO (sx p), 0)]) (ps sx n 8 p' op)) else some (true, p, []))
    else if md = 9 then
      (if sx p = 45 then (if op = 12 then some (false, p, []) else pthen (ps sx n 9 (p + 1) (op + 1)) (fun p c => some (true, p, c ++ [(9, 0)])))
      else if sx p = 40 then (if op = 12 then some (false, p, []) else pthen (ps sx n 5 (p + 1) (op + 1)) (fun p c => clo sx 41 p c))
      else if isD (sx p) then some (!isD (sx (dgs sx 9 p 0).1), (dgs sx 9 p 0).1, [(0, (dgs sx 9 p 0).2)])
      else pcat [(1, 0)] (ps sx n 10 p op))
    else
      (if sx p = 114 then (if sx (p + 1) = 46 then pcat [(2, 0)] (ps sx n 10 (p + 2) op) else some (false, p + 1, []))
      else if sx p = 116 then (if ¬ sx (p + 1) = 91 ∨ op = 12 then some (false, p + 1, []) else pthen (ps sx n 5 (p + 2) (op + 1)) (fun p c => clo sx 93 p (c ++ [(8, 0)])))
      else if fldO (sx p) = 0 then some (false, p, []) else some (true, p + 1, [(fldO (sx p), 0)]))
/-- the TAPE -/
def tpo (S : zS) (tp : Nat) (sx : Nat → Nat) : Prop := zi S 1 = nI tp ∧ tp ≤ 80 ∧ (∀ k : Nat, k < tp → za S 1 k = nI (sx k)) ∧ (∀ k : Nat, tp ≤ k → sx k = 0) ∧ ∀ k : Nat, sx k < 127
theorem sx_lt {tp : Nat} {sx : Nat → Nat} (h0 : ∀ k : Nat, tp ≤ k → sx k = 0) {p : Nat} (h : ¬ sx p = 0) : p < tp := by
  rcases Nat.lt_or_ge p tp with z | z
  · exact z
  · exact absurd (h0 p z) h
theorem dgs_b {tp : Nat} {sx : Nat → Nat} (h0 : ∀ k : Nat, tp ≤ k → sx k = 0) : ∀ (k p v : Nat), p ≤ (dgs sx k p v).1 ∧ (p ≤ tp → (dgs sx k p v).1 ≤ tp) ∧ (0 < k → isD (sx p) = true → p + 1 ≤ (dgs sx k p v).1)
  | 0, p, v => ⟨Nat.le_refl _, fun h => h, fun h => absurd h (by omega)⟩
  | k + 1, p, v => by
    simp only [dgs]
    by_cases h : isD (sx p) = true
    · rw [if_pos h]
      have hp : p < tp := sx_lt h0 (fun q => by rw [q] at h; exact absurd h (by decide))
      have ih := dgs_b h0 k (p + 1) (10 * v + sx p - 48)
      exact ⟨by omega, fun _ => ih.2.1 (by omega), fun _ _ => ih.1⟩
    · rw [if_neg h]
      exact ⟨Nat.le_refl _, fun h => h, fun _ h2 => absurd h2 h⟩
def bnd (tp md p : Nat) (R : zRs) : Prop := p ≤ R.2.1 ∧ (p ≤ tp → R.2.1 ≤ tp) ∧ (R.1 = true → R.2.2.length + (if md = 10 then 1 else 0) ≤ 2 * (R.2.1 - p))
theorem ps_b {tp : Nat} {sx : Nat → Nat} (h0 : ∀ k : Nat, tp ≤ k → sx k = 0) : ∀ (n md p op : Nat) (R : zRs), md ≤ 10 → ps sx n md p op = some R → bnd tp md p R := by
  have lt : ∀ {p c : Nat}, sx p = c → ¬ c = 0 → p < tp := fun h hc => sx_lt h0 (by rw [h]; exact hc)
  -- first, then a loop
  have two : ∀ {p : Nat} {md1 md2 md : Nat} {r1 : Option zRs} {g : Nat → Option zRs} {R : zRs}, md1 ≠ 10 → md2 ≠ 10 → md ≠ 10 → (∀ R1, r1 = some R1 → bnd tp md1 p R1) → (∀ p1 R2, g p1 = some R2 → bnd tp md2 p1 R2) → pthen r1 (fun p c => pcat c (g p)) = some R → bnd tp md p R := by
    intro p md1 md2 md r1 g R n1 n2 n3 b1 b2 h
    obtain ⟨p1, c1, ⟨e1, rfl⟩ | ⟨e1, e2⟩⟩ := pthen_inv h
    · have := b1 _ e1; simp only [bnd, n1, n3, if_false] at *; exact this
    · obtain ⟨R2, e3, rfl⟩ := pcat_inv e2
      have q1 := b1 _ e1; have q2 := b2 _ _ e3
      simp only [bnd, n1, n2, n3, if_false, List.length_append] at *
      refine ⟨by omega, fun h => by have := q1.2.1 h; exact q2.2.1 this, fun h => ?_⟩
      have := q2.2.2 h; have := q1.2.2 (by trivial); omega
  have loop : ∀ {p : Nat} {md1 md2 md x : Nat} {r1 : Option zRs} {g : Nat → Option zRs} {R : zRs}, md1 ≠ 10 → md2 ≠ 10 → md ≠ 10 → p < tp → (∀ R1, r1 = some R1 → bnd tp md1 (p + 1) R1) → (∀ p1 R2, g p1 = some R2 → bnd tp md2 p1 R2) → pthen r1 (fun p c => pcat (c ++ [(x, 0)]) (g p)) = some R → bnd tp md p R := by
    intro p md1 md2 md x r1 g R n1 n2 n3 hp b1 b2 h
    obtain ⟨p1, c1, ⟨e1, rfl⟩ | ⟨e1, e2⟩⟩ := pthen_inv h
    · have := b1 _ e1; simp only [bnd, n1, n3, if_false] at *
      exact ⟨by omega, fun _ => this.2.1 (by omega), fun h => absurd h (by decide)⟩
    · obtain ⟨R2, e3, rfl⟩ := pcat_inv e2
      have q1 := b1 _ e1; have q2 := b2 _ _ e3
      simp only [bnd, n1, n2, n3, if_false, List.length_append, List.length_cons, List.length_nil] at *
      refine ⟨by omega, fun h => by have := q1.2.1 (by omega); exact q2.2.1 this, fun h => ?_⟩
      have := q2.2.2 h; have := q1.2.2 (by trivial); omega
  have stay : ∀ {md p : Nat}, md ≠ 10 → bnd tp md p (true, p, []) := fun n => by simp [bnd, n]
  have fail : ∀ {md p : Nat}, bnd tp md p (false, p, []) := by intro md p; simp [bnd]
  have close : ∀ {md p p1 ch : Nat} {c c1 : List (Nat × Nat)} {R : zRs}, ¬ ch = 0 → p + 1 ≤ p1 → (p ≤ tp → p1 ≤ tp) → c.length + (if md = 10 then 1 else 0) ≤ 2 * (p1 - p) + 2 → clo sx ch p1 c = some R → bnd tp md p R := by
    intro md p p1 ch c c1 R hc h1 h2 h3 h
    cases h
    by_cases e : sx p1 = ch
    · have := lt e hc
      simp only [bnd, e, if_true]
      exact ⟨by omega, fun _ => by omega, fun _ => by omega⟩
    · simp only [bnd, if_neg e]
      exact ⟨by omega, h2, fun h => absurd (of_decide_eq_true h) e⟩
  intro n
  induction n with
  | zero => intro md p op R _ h; cases h
  | succ n ih =>
    intro md p op R hmd h
    rcases (show md = 0 ∨ md = 1 ∨ md = 2 ∨ md = 3 ∨ md = 4 ∨ md = 5 ∨ md = 6 ∨ md = 7 ∨ md = 8 ∨ md = 9 ∨ md = 10 by omega) with rfl | rfl | rfl | rfl | rfl | rfl | rfl | rfl | rfl | rfl | rfl
    · exact two (by decide) (by decide) (by decide) (fun R1 e => ih 2 p op R1 (by decide) e) (fun p1 R2 e => ih 1 p1 op R2 (by decide) e) h
    · simp only [ps] at h
      rw [if_neg (by decide), if_pos trivial] at h
      split at h
      next e => exact loop (by decide) (by decide) (by decide) (lt e (by decide)) (fun R1 e => ih 2 _ op R1 (by decide) e) (fun p1 R2 e => ih 1 p1 op R2 (by decide) e) h
      next => cases h; exact stay (by decide)
    · exact two (by decide) (by decide) (by decide) (fun R1 e => ih 4 p op R1 (by decide) e) (fun p1 R2 e => ih 3 p1 op R2 (by decide) e) h
    · simp only [ps] at h
      rw [if_neg (by decide), if_neg (by decide), if_neg (by decide), if_pos trivial] at h
      split at h
      next e => exact loop (by decide) (by decide) (by decide) (lt e (by decide)) (fun R1 e => ih 4 _ op R1 (by decide) e) (fun p1 R2 e => ih 3 p1 op R2 (by decide) e) h
      next => cases h; exact stay (by decide)
    · simp only [ps] at h
      rw [if_neg (by decide), if_neg (by decide), if_neg (by decide), if_neg (by decide), if_pos trivial] at h
      split at h
      next e =>
        have hp := lt e (by decide)
        split at h
        · cases h; exact fail
        · obtain ⟨p1, c1, ⟨e1, rfl⟩ | ⟨e1, e2⟩⟩ := pthen_inv h
          · have := ih 4 _ _ _ (by decide) e1; simp only [bnd] at *; exact ⟨by omega, fun _ => this.2.1 (by omega), fun h => absurd h (by decide)⟩
          · cases e2
            have := ih 4 _ _ _ (by decide) e1
            simp only [bnd, List.length_append, List.length_cons, List.length_nil] at *
            refine ⟨by omega, fun _ => this.2.1 (by omega), fun _ => ?_⟩
            have := this.2.2 (by trivial); simp at this ⊢; omega
      next =>
        split at h
        next e =>
          have hp := lt e (by decide)
          split at h
          · cases h; exact fail
          · obtain ⟨p1, c1, ⟨e1, rfl⟩ | ⟨e1, e2⟩⟩ := pthen_inv h
            · have := ih 0 _ _ _ (by decide) e1; simp only [bnd] at *; exact ⟨by omega, fun _ => this.2.1 (by omega), fun h => absurd h (by decide)⟩
            · have := ih 0 _ _ _ (by decide) e1
              simp only [bnd] at this
              have q := this.2.2 (by trivial)
              simp at q
              exact close (c1 := c1) (by decide) (by omega) (fun _ => this.2.1 (by omega)) (by simp; omega) e2
        next =>
          obtain ⟨p1, c1, ⟨e1, rfl⟩ | ⟨e1, e2⟩⟩ := pthen_inv h
          · have := ih 5 _ _ _ (by decide) e1; simp only [bnd] at *; exact ⟨by omega, this.2.1, fun h => absurd h (by decide)⟩
          · have q1 := ih 5 _ _ _ (by decide) e1
            split at e2
            next e =>
              have hp : p1 < tp := by rcases e with e | e | e | e <;> exact lt e (by decide)
              obtain ⟨p2, c2, ⟨e3, rfl⟩ | ⟨e3, e4⟩⟩ := pthen_inv e2
              · have := ih 5 _ _ _ (by decide) e3; simp only [bnd] at *; exact ⟨by omega, fun _ => this.2.1 (by omega), fun h => absurd h (by decide)⟩
              · cases e4
                have q2 := ih 5 _ _ _ (by decide) e3
                simp only [bnd, List.length_append, List.length_cons, List.length_nil] at *
                refine ⟨by omega, fun _ => q2.2.1 (by omega), fun _ => ?_⟩
                have a := q1.2.2 (by trivial); have b := q2.2.2 (by trivial); simp at a b ⊢; omega
            next =>
              cases e2
              simp only [bnd] at *; exact ⟨q1.1, q1.2.1, fun h => absurd h (by decide)⟩
    · exact two (by decide) (by decide) (by decide) (fun R1 e => ih 7 p op R1 (by decide) e) (fun p1 R2 e => ih 6 p1 op R2 (by decide) e) h
    · simp only [ps] at h
      rw [if_neg (by decide), if_neg (by decide), if_neg (by decide), if_neg (by decide), if_neg (by decide), if_neg (by decide), if_pos trivial] at h
      split at h
      next e => exact loop (by decide) (by decide) (by decide) (by rcases e with e | e <;> exact lt e (by decide)) (fun R1 e => ih 7 _ op R1 (by decide) e) (fun p1 R2 e => ih 6 p1 op R2 (by decide) e) h
      next => cases h; exact stay (by decide)
    · exact two (by decide) (by decide) (by decide) (fun R1 e => ih 9 p op R1 (by decide) e) (fun p1 R2 e => ih 8 p1 op R2 (by decide) e) h
    · simp only [ps] at h
      rw [if_neg (by decide), if_neg (by decide), if_neg (by decide), if_neg (by decide), if_neg (by decide), if_neg (by decide), if_neg (by decide), if_neg (by decide), if_pos trivial] at h
      split at h
      next e => exact loop (by decide) (by decide) (by decide) (by rcases e with e | e | e <;> exact lt e (by decide)) (fun R1 e => ih 9 _ op R1 (by decide) e) (fun p1 R2 e => ih 8 p1 op R2 (by decide) e) h
      next => cases h; exact stay (by decide)
    · simp only [ps] at h
      rw [if_neg (by decide), if_neg (by decide), if_neg (by decide), if_neg (by decide), if_neg (by decide), if_neg (by decide), if_neg (by decide), if_neg (by decide), if_neg (by decide), if_pos trivial] at h
      split at h
      next e =>
        have hp := lt e (by decide)
        split at h
        · cases h; exact fail
        · obtain ⟨p1, c1, ⟨e1, rfl⟩ | ⟨e1, e2⟩⟩ := pthen_inv h
          · have := ih 9 _ _ _ (by decide) e1; simp only [bnd] at *; exact ⟨by omega, fun _ => this.2.1 (by omega), fun h => absurd h (by decide)⟩
          · cases e2
            have := ih 9 _ _ _ (by decide) e1
            simp only [bnd, List.length_append, List.length_cons, List.length_nil] at *
            refine ⟨by omega, fun _ => this.2.1 (by omega), fun _ => ?_⟩
            have := this.2.2 (by trivial); simp at this ⊢; omega
      next =>
        split at h
        next e =>
          have hp := lt e (by decide)
          split at h
          · cases h; exact fail
          · obtain ⟨p1, c1, ⟨e1, rfl⟩ | ⟨e1, e2⟩⟩ := pthen_inv h
            · have := ih 5 _ _ _ (by decide) e1; simp only [bnd] at *; exact ⟨by omega, fun _ => this.2.1 (by omega), fun h => absurd h (by decide)⟩
            · have := ih 5 _ _ _ (by decide) e1
              simp only [bnd] at this
              have q := this.2.2 (by trivial)
              simp at q
              exact close (c1 := c1) (by decide) (by omega) (fun _ => this.2.1 (by omega)) (by simp; omega) e2
        next =>
          split at h
          next e =>
            cases h
            have := dgs_b h0 9 p 0
            simp only [bnd]
            refine ⟨this.1, this.2.1, fun _ => ?_⟩
            have := this.2.2 (by decide) e
            simp; omega
          next =>
            obtain ⟨R2, e3, rfl⟩ := pcat_inv h
            have := ih 10 _ _ _ (by decide) e3
            simp only [bnd, List.length_append, List.length_cons, List.length_nil] at *
            refine ⟨this.1, this.2.1, fun h => ?_⟩
            have := this.2.2 h; simp at this ⊢; omega
    · simp only [ps] at h
      rw [if_neg (by decide), if_neg (by decide), if_neg (by decide), if_neg (by decide), if_neg (by decide), if_neg (by decide), if_neg (by decide), if_neg (by decide), if_neg (by decide), if_neg (by decide)] at h
      split at h
      next e =>
        have hp := lt e (by decide)
        split at h
        next e' =>
          have hp' := lt e' (by decide)
          obtain ⟨R2, e3, rfl⟩ := pcat_inv h
          have := ih 10 _ _ _ (by decide) e3
          simp only [bnd, List.length_append, List.length_cons, List.length_nil] at *
          refine ⟨by omega, fun _ => this.2.1 (by omega), fun h => ?_⟩
          have := this.2.2 h; simp at this ⊢; omega
        next => cases h; simp only [bnd]; exact ⟨by omega, fun _ => by omega, fun h => absurd h (by decide)⟩
      next =>
        split at h
        next e =>
          have hp := lt e (by decide)
          split at h
          · cases h; simp only [bnd]; exact ⟨by omega, fun _ => by omega, fun h => absurd h (by decide)⟩
          next e' =>
            have hp' : p + 1 < tp := by
              rcases Classical.em (sx (p + 1) = 91) with z | z
              · exact lt z (by decide)
              · exact absurd (Or.inl z) e'
            obtain ⟨p1, c1, ⟨e1, rfl⟩ | ⟨e1, e2⟩⟩ := pthen_inv h
            · have := ih 5 _ _ _ (by decide) e1; simp only [bnd] at *; exact ⟨by omega, fun _ => this.2.1 (by omega), fun h => absurd h (by decide)⟩
            · have := ih 5 _ _ _ (by decide) e1
              simp only [bnd] at this
              have q := this.2.2 (by trivial)
              simp at q
              exact close (c1 := c1) (by decide) (by omega) (fun _ => this.2.1 (by omega)) (by simp; omega) e2
        next =>
          split at h
          · cases h; exact fail
          next e =>
            cases h
            have hp : p < tp := sx_lt h0 (fun q => by rw [q] at e; exact absurd (by decide) e)
            simp only [bnd]
            exact ⟨by omega, fun _ => by omega, fun _ => by simp⟩

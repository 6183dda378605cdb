/-! the reader closed: all its methods, and that the pure one ends -/
theorem p_all (l : Launch) (E : zE) (r : Nat → Nat) (S : zS) (nq tp : Nat) (sx : Nat → Nat) (ht : tpo S tp sx) (hn6 : nq < 6) (hn3 : zi S 3 = nI nq) (n : Nat) :
    pC l E r S nq tp yX8_readOr cX8_readOr 1 (fun p op R => ps sx n 0 p op = some R) n ∧ pC l E r S nq tp yX8_readAnd cX8_readAnd 1 (fun p op R => ps sx n 2 p op = some R) n ∧ pC l E r S nq tp yX8_readTest cX8_readTest 3 (fun p op R => ps sx n 4 p op = some R) n ∧ pC l E r S nq tp yX8_readX cX8_readX 2 (fun p op R => ps sx n 5 p op = some R) n ∧ pC l E r S nq tp yX8_readTerm cX8_readTerm 2 (fun p op R => ps sx n 7 p op = some R) n ∧ pC l E r S nq tp yX8_readFactor cX8_readFactor 3 (fun p op R => ps sx n 9 p op = some R) n ∧ pC l E r S nq tp yX8_readPath cX8_readPath 2 (fun p op R => pcat [(1, 0)] (ps sx n 10 p op) = some R) n := by
  induction n using Nat.strongRecOn with
  | _ n ih =>
    refine ⟨?_, ?_, ?_, ?_, ?_, ?_, ?_⟩
    · exact fun p op a cd nm R hH hp ha hop => c_X8_readOr_p l E r S nq tp sx n p op a cd nm R ht hn6 hn3 (fun m hm => (ih m hm).2.1) hH hp ha hop
    · exact fun p op a cd nm R hH hp ha hop => c_X8_readAnd_p l E r S nq tp sx n p op a cd nm R ht hn6 hn3 (fun m hm => (ih m hm).2.2.1) hH hp ha hop
    · exact fun p op a cd nm R hH hp ha hop => c_X8_readTest_p l E r S nq tp sx n p op a cd nm R ht hn6 hn3 (fun m hm => (ih m hm).1) (fun m hm => (ih m hm).2.2.2.1) hH hp ha hop
    · exact fun p op a cd nm R hH hp ha hop => c_X8_readX_p l E r S nq tp sx n p op a cd nm R ht hn6 hn3 (fun m hm => (ih m hm).2.2.2.2.1) hH hp ha hop
    · exact fun p op a cd nm R hH hp ha hop => c_X8_readTerm_p l E r S nq tp sx n p op a cd nm R ht hn6 hn3 (fun m hm => (ih m hm).2.2.2.2.2.1) hH hp ha hop
    · exact fun p op a cd nm R hH hp ha hop => c_X8_readFactor_p l E r S nq tp sx n p op a cd nm R ht hn6 hn3 (fun m hm => (ih m hm).2.2.2.1) (fun m hm => (ih m hm).2.2.2.2.2.2) hH hp ha hop
    · exact fun p op a cd nm R hH hp ha hop => c_X8_readPath_p l E r S nq tp sx n p op a cd nm R ht hn6 hn3 (fun m hm => (ih m hm).2.2.2.1) hH hp ha hop
def rnk (md : Nat) : Nat := if md = 0 then 10 else if md = 2 then 9 else if md = 4 then 8 else if md = 5 then 7 else if md = 7 then 6 else if md = 9 then 5 else if md = 10 then 4 else 1
theorem pthen_t {r : Option zRs} {f : Nat → List (Nat × Nat) → Option zRs} (h1 : ∃ R, r = some R) (h2 : ∀ p c, r = some (true, p, c) → ∃ R, f p c = some R) : ∃ R, pthen r f = some R := by
  obtain ⟨⟨b, p, c⟩, rfl⟩ := h1
  cases b with
  | false => exact ⟨_, rfl⟩
  | true => exact h2 p c rfl
theorem pcat_t {c : List (Nat × Nat)} {r : Option zRs} (h : ∃ R, r = some R) : ∃ R, pcat c r = some R := by
  obtain ⟨R, rfl⟩ := h
  exact ⟨_, rfl⟩
theorem ps_t {tp : Nat} {sx : Nat → Nat} (h0 : ∀ k : Nat, tp ≤ k → sx k = 0) : ∀ (n md p op : Nat), md ≤ 10 → p ≤ tp → 12 * (tp - p) + rnk md < n → ∃ R, ps sx n md p op = some R := by
  have lt : ∀ {p c : Nat}, sx p = c → ¬ c = 0 → p < tp := fun h hc => sx_lt h0 (by rw [h]; exact hc)
  intro n
  induction n with
  | zero => intro md p op _ _ h; exact absurd h (by omega)
  | succ n ih =>
    have b : ∀ {md p op p1 : Nat} {bb : Bool} {c1 : List (Nat × Nat)}, md ≤ 10 → p ≤ tp → ps sx n md p op = some (bb, p1, c1) → p ≤ p1 ∧ p1 ≤ tp := fun hm hp h => by
      have := ps_b h0 _ _ _ _ _ hm h
      exact ⟨this.1, this.2.1 hp⟩
    intro md p op hmd hp hn
    rcases (show md = 0 ∨ md = 1 ∨ md = 2 ∨ md = 3 ∨ md = 4 ∨ md = 5 ∨ md = 6 ∨ md = 7 ∨ md = 8 ∨ md = 9 ∨ md = 10 by omega) with rfl | rfl | rfl | rfl | rfl | rfl | rfl | rfl | rfl | rfl | rfl
    · exact pthen_t (ih 2 p op (by decide) hp (by simp [rnk] at *; omega)) (fun p1 c1 h => pcat_t (ih 1 p1 op (by decide) (b (by decide) hp h).2 (by have := b (by decide) hp h; simp [rnk] at *; omega)))
    · show ∃ R, (if sx p = 124 then _ else _) = some R
      split
      next e =>
        have hlt := lt e (by decide)
        exact pthen_t (ih 2 _ op (by decide) (by omega) (by simp [rnk] at *; omega)) (fun p1 c1 h => pcat_t (ih 1 p1 op (by decide) (b (by decide) (by omega) h).2 (by have := b (by decide) (by omega) h; simp [rnk] at *; omega)))
      next => exact ⟨_, rfl⟩
    · exact pthen_t (ih 4 p op (by decide) hp (by simp [rnk] at *; omega)) (fun p1 c1 h => pcat_t (ih 3 p1 op (by decide) (b (by decide) hp h).2 (by have := b (by decide) hp h; simp [rnk] at *; omega)))
    · show ∃ R, (if sx p = 38 then _ else _) = some R
      split
      next e =>
        have hlt := lt e (by decide)
        exact pthen_t (ih 4 _ op (by decide) (by omega) (by simp [rnk] at *; omega)) (fun p1 c1 h => pcat_t (ih 3 p1 op (by decide) (b (by decide) (by omega) h).2 (by have := b (by decide) (by omega) h; simp [rnk] at *; omega)))
      next => exact ⟨_, rfl⟩
    · show ∃ R, (if sx p = 33 then _ else if sx p = 123 then _ else _) = some R
      split
      next e =>
        have hlt := lt e (by decide)
        split
        · exact ⟨_, rfl⟩
        · exact pthen_t (ih 4 _ _ (by decide) (by omega) (by simp [rnk] at *; omega)) (fun p1 c1 h => ⟨_, rfl⟩)
      next =>
        split
        next e =>
          have hlt := lt e (by decide)
          split
          · exact ⟨_, rfl⟩
          · exact pthen_t (ih 0 _ _ (by decide) (by omega) (by simp [rnk] at *; omega)) (fun p1 c1 h => ⟨_, rfl⟩)
        next =>
          refine pthen_t (ih 5 p op (by decide) hp (by simp [rnk] at *; omega)) (fun p1 c1 h => ?_)
          have hb := b (by decide) hp h
          split
          next e =>
            have hlt : p1 < tp := by rcases e with e | e | e | e <;> exact lt e (by decide)
            exact pthen_t (ih 5 _ op (by decide) (by omega) (by simp [rnk] at *; omega)) (fun p2 c2 h => ⟨_, rfl⟩)
          next => exact ⟨_, rfl⟩
    · exact pthen_t (ih 7 p op (by decide) hp (by simp [rnk] at *; omega)) (fun p1 c1 h => pcat_t (ih 6 p1 op (by decide) (b (by decide) hp h).2 (by have := b (by decide) hp h; simp [rnk] at *; omega)))
    · show ∃ R, (if sx p = 43 ∨ sx p = 45 then _ else _) = some R
      split
      next e =>
        have hlt : p < tp := by rcases e with e | e <;> exact lt e (by decide)
        exact pthen_t (ih 7 _ op (by decide) (by omega) (by simp [rnk] at *; omega)) (fun p1 c1 h => pcat_t (ih 6 p1 op (by decide) (b (by decide) (by omega) h).2 (by have := b (by decide) (by omega) h; simp [rnk] at *; omega)))
      next => exact ⟨_, rfl⟩
    · exact pthen_t (ih 9 p op (by decide) hp (by simp [rnk] at *; omega)) (fun p1 c1 h => pcat_t (ih 8 p1 op (by decide) (b (by decide) hp h).2 (by have := b (by decide) hp h; simp [rnk] at *; omega)))
    · show ∃ R, (if sx p = 42 ∨ sx p = 47 ∨ sx p = 37 then _ else _) = some R
      split
      next e =>
        have hlt : p < tp := by rcases e with e | e | e <;> exact lt e (by decide)
        exact pthen_t (ih 9 _ op (by decide) (by omega) (by simp [rnk] at *; omega)) (fun p1 c1 h => pcat_t (ih 8 p1 op (by decide) (b (by decide) (by omega) h).2 (by have := b (by decide) (by omega) h; simp [rnk] at *; omega)))
      next => exact ⟨_, rfl⟩
    · show ∃ R, (if sx p = 45 then _ else if sx p = 40 then _ else if isD (sx p) = true then _ else _) = some R
      split
      next e =>
        have hlt := lt e (by decide)
        split
        · exact ⟨_, rfl⟩
        · exact pthen_t (ih 9 _ _ (by decide) (by omega) (by simp [rnk] at *; omega)) (fun p1 c1 h => ⟨_, rfl⟩)
      next =>
        split
        next e =>
          have hlt := lt e (by decide)
          split
          · exact ⟨_, rfl⟩
          · exact pthen_t (ih 5 _ _ (by decide) (by omega) (by simp [rnk] at *; omega)) (fun p1 c1 h => ⟨_, rfl⟩)
        next =>
          split
          · exact ⟨_, rfl⟩
          · exact pcat_t (ih 10 p op (by decide) hp (by simp [rnk] at *; omega))
    · show ∃ R, (if sx p = 114 then (if sx (p + 1) = 46 then _ else _) else if sx p = 116 then (if ¬ sx (p + 1) = 91 ∨ op = 12 then _ else _) else if fldO (sx p) = 0 then _ else _) = some R
      split
      next e =>
        have hlt := lt e (by decide)
        split
        next e' =>
          have hlt' := lt e' (by decide)
          exact pcat_t (ih 10 _ op (by decide) (by omega) (by simp [rnk] at *; omega))
        next => exact ⟨_, rfl⟩
      next =>
        split
        next e =>
          have hlt := lt e (by decide)
          split
          next => exact ⟨_, rfl⟩
          next e' =>
            have hlt' : p + 1 < tp := by
              rcases Classical.em (sx (p + 1) = 91) with z | z
              · exact lt z (by decide)
              · exact absurd (Or.inl z) e'
            exact pthen_t (ih 5 _ _ (by decide) (by omega) (by simp [rnk] at *; omega)) (fun p1 c1 h => ⟨_, rfl⟩)
        next =>
          split
          · exact ⟨_, rfl⟩
          · exact ⟨_, rfl⟩

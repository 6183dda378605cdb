/-! what the reader lays is well typed: one number more on the stack -/
def wtl : List (Nat × Nat) → List Bool → Option (List Bool)
  | [], t => some t
  | x :: c, t => match wt x.1 t with
    | none => none
    | some t' => wtl c t'
theorem wtl_app : ∀ (c1 c2 : List (Nat × Nat)) (t t1 : List Bool), wtl c1 t = some t1 → wtl (c1 ++ c2) t = wtl c2 t1
  | [], _, _, _, h => by cases h; rfl
  | x :: c1, c2, t, t1, h => by
    simp only [wtl, List.cons_append] at h ⊢
    cases hw : wt x.1 t with
    | none => rw [hw] at h; cases h
    | some t' => rw [hw] at h; exact wtl_app c1 c2 t' t1 h
/-- the types ahead and behind, by the mode -/
def mdT (md : Nat) (t : List Bool) : List Bool := if md = 1 ∨ md = 3 ∨ md = 6 ∨ md = 8 then false :: t else if md = 10 then true :: t else t
theorem wt_bin {x : Nat} (h : 10 ≤ x ∧ x ≤ 20) (t : List Bool) : wt x (false :: false :: t) = some (false :: t) := by
  unfold wt
  rw [if_neg (by omega), if_neg (by omega)]
  simp only
  rw [if_neg (by omega), if_pos h]
theorem wt_un {x : Nat} (h : x = 9 ∨ x = 21) (t : List Bool) : wt x (false :: t) = some (false :: t) := by
  unfold wt
  rw [if_neg (by omega), if_neg (by omega)]
  simp only
  rw [if_pos h]
theorem wtl_one {x v : Nat} {t t' : List Bool} (h : wt x t = some t') : wtl [(x, v)] t = some t' := by simp [wtl, h]
theorem ps_w {sx : Nat → Nat} : ∀ (n md p op : Nat) (p1 : Nat) (c1 : List (Nat × Nat)), md ≤ 10 → ps sx n md p op = some (true, p1, c1) → ∀ t : List Bool, wtl c1 (mdT md t) = some (false :: t) := by
  have two : ∀ {md1 md2 md : Nat} {r1 : Option zRs} {g : Nat → Option zRs} {p1 : Nat} {c1 : List (Nat × Nat)}, (∀ t, mdT md1 t = t) → (∀ t, mdT md2 t = false :: t) → (∀ t, mdT md t = t) → (∀ p1 c1, r1 = some (true, p1, c1) → ∀ t, wtl c1 (mdT md1 t) = some (false :: t)) → (∀ p0 p1 c1, g p0 = some (true, p1, c1) → ∀ t, wtl c1 (mdT md2 t) = some (false :: t)) → pthen r1 (fun p c => pcat c (g p)) = some (true, p1, c1) → ∀ t, wtl c1 (mdT md t) = some (false :: t) := by
    intro md1 md2 md r1 g p1 c1 m1 m2 m3 b1 b2 h t
    obtain ⟨q1, e1, ⟨_, h2⟩ | ⟨h1, h2⟩⟩ := pthen_inv h
    · cases h2
    · obtain ⟨⟨b, q2, e2⟩, h3, h4⟩ := pcat_inv h2
      cases h4
      have a := b1 _ _ h1 t
      rw [m1] at a
      have b := b2 _ _ _ h3 t
      rw [m2] at b
      rw [m3, wtl_app _ _ _ _ a]
      exact b
  have loop : ∀ {md1 md2 md x : Nat} {r1 : Option zRs} {g : Nat → Option zRs} {p1 : Nat} {c1 : List (Nat × Nat)}, 10 ≤ x ∧ x ≤ 20 → (∀ t, mdT md1 t = t) → (∀ t, mdT md2 t = false :: t) → (∀ t, mdT md t = false :: t) → (∀ p1 c1, r1 = some (true, p1, c1) → ∀ t, wtl c1 (mdT md1 t) = some (false :: t)) → (∀ p0 p1 c1, g p0 = some (true, p1, c1) → ∀ t, wtl c1 (mdT md2 t) = some (false :: t)) → pthen r1 (fun p c => pcat (c ++ [(x, 0)]) (g p)) = some (true, p1, c1) → ∀ t, wtl c1 (mdT md t) = some (false :: t) := by
    intro md1 md2 md x r1 g p1 c1 hx m1 m2 m3 b1 b2 h t
    obtain ⟨q1, e1, ⟨_, h2⟩ | ⟨h1, h2⟩⟩ := pthen_inv h
    · cases h2
    · obtain ⟨⟨b, q2, e2⟩, h3, h4⟩ := pcat_inv h2
      cases h4
      have a := b1 _ _ h1 (false :: t)
      rw [m1] at a
      have b := b2 _ _ _ h3 t
      rw [m2] at b
      rw [m3, List.append_assoc, wtl_app _ _ _ _ a, wtl_app _ _ _ _ (wtl_one (v := 0) (wt_bin hx t))]
      exact b
  have stay : ∀ {md p p1 : Nat} {c1 : List (Nat × Nat)}, (∀ t, mdT md t = false :: t) → (some (true, p, []) : Option zRs) = some (true, p1, c1) → ∀ t, wtl c1 (mdT md t) = some (false :: t) := by
    intro md p p1 c1 m h t
    cases h
    rw [m]; rfl
  have clos : ∀ {md ch p p1 : Nat} {c c1 : List (Nat × Nat)}, clo sx ch p c = some (true, p1, c1) → (∀ t, wtl c (mdT md t) = some (false :: t)) → ∀ t, wtl c1 (mdT md t) = some (false :: t) := by
    intro md ch p p1 c c1 h hc t
    rcases Classical.em (sx p = ch) with z | z
    · have := clo_y h z; cases this; exact hc t
    · have := clo_n h z; cases this
  intro n
  induction n with
  | zero => intro md p op p1 c1 _ h; cases h
  | succ n ih =>
    intro md p op p1 c1 hmd h
    rcases (show md = 0 ∨ md = 1 ∨ md = 2 ∨ md = 3 ∨ md = 4 ∨ md = 5 ∨ md = 6 ∨ md = 7 ∨ md = 8 ∨ md = 9 ∨ md = 10 by omega) with rfl | rfl | rfl | rfl | rfl | rfl | rfl | rfl | rfl | rfl | rfl
    · exact two (md1 := 2) (md2 := 1) (fun _ => rfl) (fun _ => rfl) (fun _ => rfl) (fun p1 c1 e => ih 2 _ _ p1 c1 (by decide) e) (fun p0 p1 c1 e => ih 1 p0 op p1 c1 (by decide) e) h
    · by_cases e : sx p = 124
      · have h2 : (if sx p = 124 then _ else _) = some (true, p1, c1) := h
        rw [if_pos e] at h2
        exact loop (md1 := 2) (md2 := 1) (by decide) (fun _ => rfl) (fun _ => rfl) (fun _ => rfl) (fun p1 c1 e => ih 2 _ _ p1 c1 (by decide) e) (fun p0 p1 c1 e => ih 1 p0 op p1 c1 (by decide) e) h2
      · have h2 : (if sx p = 124 then _ else _) = some (true, p1, c1) := h
        rw [if_neg e] at h2
        exact stay (fun _ => rfl) h2
    · exact two (md1 := 4) (md2 := 3) (fun _ => rfl) (fun _ => rfl) (fun _ => rfl) (fun p1 c1 e => ih 4 _ _ p1 c1 (by decide) e) (fun p0 p1 c1 e => ih 3 p0 op p1 c1 (by decide) e) h
    · by_cases e : sx p = 38
      · have h2 : (if sx p = 38 then _ else _) = some (true, p1, c1) := h
        rw [if_pos e] at h2
        exact loop (md1 := 4) (md2 := 3) (by decide) (fun _ => rfl) (fun _ => rfl) (fun _ => rfl) (fun p1 c1 e => ih 4 _ _ p1 c1 (by decide) e) (fun p0 p1 c1 e => ih 3 p0 op p1 c1 (by decide) e) h2
      · have h2 : (if sx p = 38 then _ else _) = some (true, p1, c1) := h
        rw [if_neg e] at h2
        exact stay (fun _ => rfl) h2
    · by_cases e1 : sx p = 33
      · by_cases e2 : op = 12
        · have := p4_mn h e1 e2; cases this
        · obtain ⟨q1, d1, ⟨_, h2⟩ | ⟨h1, h2⟩⟩ := pthen_inv (p4_my h e1 e2)
          · cases h2
          · cases h2
            intro t
            have a := ih 4 _ _ _ _ (by decide) h1 t
            rw [wtl_app _ _ _ _ a]
            exact wtl_one (wt_un (Or.inr rfl) t)
      · by_cases e3 : sx p = 123
        · by_cases e2 : op = 12
          · have := p4_pn h e1 e3 e2; cases this
          · obtain ⟨q1, d1, ⟨_, h2⟩ | ⟨h1, h2⟩⟩ := pthen_inv (p4_py h e1 e3 e2)
            · cases h2
            · exact clos (md := 4) h2 (fun t => ih 0 _ _ _ _ (by decide) h1 t)
        · obtain ⟨q1, d1, ⟨_, h2⟩ | ⟨h1, h2⟩⟩ := pthen_inv (p4_c h e1 e3)
          · cases h2
          · split at h2
            · obtain ⟨q2, d2, ⟨_, h4⟩ | ⟨h3, h4⟩⟩ := pthen_inv h2
              · cases h4
              · cases h4
                intro t
                have a : wtl d1 t = some (false :: t) := ih 5 _ _ _ _ (by decide) h1 t
                have b : wtl d2 (false :: t) = some (false :: false :: t) := ih 5 _ _ _ _ (by decide) h3 (false :: t)
                show wtl (d1 ++ (d2 ++ [(cmpO (sx q1), 0)])) t = _
                rw [wtl_app _ _ _ _ a, wtl_app _ _ _ _ b]
                refine wtl_one (wt_bin ?_ t)
                unfold cmpO
                repeat' split
                all_goals decide
            · cases h2
    · exact two (md1 := 7) (md2 := 6) (fun _ => rfl) (fun _ => rfl) (fun _ => rfl) (fun p1 c1 e => ih 7 _ _ p1 c1 (by decide) e) (fun p0 p1 c1 e => ih 6 p0 op p1 c1 (by decide) e) h
    · by_cases e : sx p = 43 ∨ sx p = 45
      · have h2 : (if sx p = 43 ∨ sx p = 45 then _ else _) = some (true, p1, c1) := h
        rw [if_pos e] at h2
        exact loop (md1 := 7) (md2 := 6) (by unfold addO; split <;> decide) (fun _ => rfl) (fun _ => rfl) (fun _ => rfl) (fun p1 c1 e => ih 7 _ _ p1 c1 (by decide) e) (fun p0 p1 c1 e => ih 6 p0 op p1 c1 (by decide) e) h2
      · have h2 : (if sx p = 43 ∨ sx p = 45 then _ else _) = some (true, p1, c1) := h
        rw [if_neg e] at h2
        exact stay (fun _ => rfl) h2
    · exact two (md1 := 9) (md2 := 8) (fun _ => rfl) (fun _ => rfl) (fun _ => rfl) (fun p1 c1 e => ih 9 _ _ p1 c1 (by decide) e) (fun p0 p1 c1 e => ih 8 p0 op p1 c1 (by decide) e) h
    · by_cases e : sx p = 42 ∨ sx p = 47 ∨ sx p = 37
      · have h2 : (if sx p = 42 ∨ sx p = 47 ∨ sx p = 37 then _ else _) = some (true, p1, c1) := h
        rw [if_pos e] at h2
        exact loop (md1 := 9) (md2 := 8) (by unfold mulO; repeat' split
                                             all_goals decide) (fun _ => rfl) (fun _ => rfl) (fun _ => rfl) (fun p1 c1 e => ih 9 _ _ p1 c1 (by decide) e) (fun p0 p1 c1 e => ih 8 p0 op p1 c1 (by decide) e) h2
      · have h2 : (if sx p = 42 ∨ sx p = 47 ∨ sx p = 37 then _ else _) = some (true, p1, c1) := h
        rw [if_neg e] at h2
        exact stay (fun _ => rfl) h2
    · by_cases e1 : sx p = 45
      · by_cases e2 : op = 12
        · have := p9_mn h e1 e2; cases this
        · obtain ⟨q1, d1, ⟨_, h2⟩ | ⟨h1, h2⟩⟩ := pthen_inv (p9_my h e1 e2)
          · cases h2
          · cases h2
            intro t
            have a := ih 9 _ _ _ _ (by decide) h1 t
            rw [wtl_app _ _ _ _ a]
            exact wtl_one (wt_un (Or.inl rfl) t)
      · by_cases e3 : sx p = 40
        · by_cases e2 : op = 12
          · have := p9_pn h e1 e3 e2; cases this
          · obtain ⟨q1, d1, ⟨_, h2⟩ | ⟨h1, h2⟩⟩ := pthen_inv (p9_py h e1 e3 e2)
            · cases h2
            · exact clos (md := 9) h2 (fun t => ih 5 _ _ _ _ (by decide) h1 t)
        · cases hd : isD (sx p) with
          | true =>
            have h2 := p9_d h e1 e3 hd
            intro t
            have h3 := congrArg (fun z : zRs => z.2.2) h2
            dsimp only at h3
            rw [h3]
            rfl
          | false =>
            obtain ⟨⟨b, q2, e2⟩, h3, h4⟩ := pcat_inv (p9_x h e1 e3 hd)
            cases h4
            intro t
            have a := ih 10 _ _ _ _ (by decide) h3 t
            exact a
    · by_cases e1 : sx p = 114
      · by_cases e2 : sx (p + 1) = 46
        · obtain ⟨⟨b, q2, d2⟩, h3, h4⟩ := p10_ry h e1 e2
          cases h4
          intro t
          exact ih 10 _ _ _ _ (by decide) h3 t
        · have := p10_rn h e1 e2; cases this
      · by_cases e2 : sx p = 116
        · by_cases e3 : ¬ sx (p + 1) = 91 ∨ op = 12
          · have := p10_tn h e1 e2 e3; cases this
          · obtain ⟨q1, d1, ⟨_, h2⟩ | ⟨h1, h2⟩⟩ := pthen_inv (p10_ty h e1 e2 e3)
            · cases h2
            · refine clos (md := 10) h2 (fun t => ?_)
              have a : wtl d1 (true :: t) = some (false :: true :: t) := ih 5 _ _ _ _ (by decide) h1 (true :: t)
              show wtl (d1 ++ [(8, 0)]) (true :: t) = _
              rw [wtl_app _ _ _ _ a]
              rfl
        · by_cases e3 : fldO (sx p) = 0
          · have := p10_f0 h e1 e2 e3; cases this
          · have h2 := p10_f h e1 e2 rfl e3
            cases h2
            intro t
            have hf : 3 ≤ fldO (sx p) ∧ fldO (sx p) ≤ 7 := by
              unfold fldO at e3 ⊢
              repeat' split
              all_goals first | decide | (exfalso; simp_all)
            generalize fldO (sx p) = f at hf
            rcases (show f = 3 ∨ f = 4 ∨ f = 5 ∨ f = 6 ∨ f = 7 by omega) with rfl | rfl | rfl | rfl | rfl <;> rfl

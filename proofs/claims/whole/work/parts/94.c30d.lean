/-! whatever is read comes to the same -/
theorem hv_ar {op : Nat} (h : 10 ≤ op ∧ op ≤ 14) : ∀ x y : Int64, (false = true → x = 0 ∨ x = 1) → (false = true → y = 0 ∨ y = 1) → (prV (opC op) x y).2 = decide ((op = 13 ∨ op = 14) ∧ y = 0) ∧ ((prV (opC op) x y).2 = false → rk op x y = (prV (opC op) x y).1 ∧ (false = true → (prV (opC op) x y).1 = 0 ∨ (prV (opC op) x y).1 = 1)) := fun x y _ _ => by
  obtain ⟨a, b⟩ := rk_pr (op := op) (by omega) x y
  exact ⟨a, fun q => ⟨b q, fun z => by cases z⟩⟩
theorem pr_01 {op : Nat} (h : 15 ≤ op ∧ op ≤ 20) (x y : Int64) : (prV (opC op) x y).1 = 0 ∨ (prV (opC op) x y).1 = 1 := by
  rcases (show op = 15 ∨ op = 16 ∨ op = 17 ∨ op = 18 ∨ op = 19 ∨ op = 20 by omega) with rfl | rfl | rfl | rfl | rfl | rfl
  all_goals
    first
    | (show (if hldB 61 x y then (1 : Int64) else 0) = 0 ∨ (if hldB 61 x y then (1 : Int64) else 0) = 1; split <;> simp)
    | (show (if hldB 35 x y then (1 : Int64) else 0) = 0 ∨ (if hldB 35 x y then (1 : Int64) else 0) = 1; split <;> simp)
    | (show (if hldB 60 x y then (1 : Int64) else 0) = 0 ∨ (if hldB 60 x y then (1 : Int64) else 0) = 1; split <;> simp)
    | (show (if hldB 62 x y then (1 : Int64) else 0) = 0 ∨ (if hldB 62 x y then (1 : Int64) else 0) = 1; split <;> simp)
    | (show (if hldB 38 x y then (1 : Int64) else 0) = 0 ∨ (if hldB 38 x y then (1 : Int64) else 0) = 1; split <;> simp)
    | (show (if hldB 124 x y then (1 : Int64) else 0) = 0 ∨ (if hldB 124 x y then (1 : Int64) else 0) = 1; split <;> simp)
theorem hv_cmp {op : Nat} (h : 15 ≤ op ∧ op ≤ 18) : ∀ x y : Int64, (false = true → x = 0 ∨ x = 1) → (false = true → y = 0 ∨ y = 1) → (prV (opC op) x y).2 = decide ((op = 13 ∨ op = 14) ∧ y = 0) ∧ ((prV (opC op) x y).2 = false → rk op x y = (prV (opC op) x y).1 ∧ (true = true → (prV (opC op) x y).1 = 0 ∨ (prV (opC op) x y).1 = 1)) := fun x y _ _ => by
  obtain ⟨a, b⟩ := rk_pr (op := op) (by omega) x y
  exact ⟨a, fun q => ⟨b q, fun _ => pr_01 (by omega) x y⟩⟩
theorem hv_lg {op : Nat} (h : op = 19 ∨ op = 20) : ∀ x y : Int64, (true = true → x = 0 ∨ x = 1) → (true = true → y = 0 ∨ y = 1) → (prV (opC op) x y).2 = decide ((op = 13 ∨ op = 14) ∧ y = 0) ∧ ((prV (opC op) x y).2 = false → rk op x y = (prV (opC op) x y).1 ∧ (true = true → (prV (opC op) x y).1 = 0 ∨ (prV (opC op) x y).1 = 1)) := fun x y hx hy => by
  refine ⟨by rcases h with rfl | rfl <;> rfl, fun _ => ⟨?_, fun _ => pr_01 (by omega) x y⟩⟩
  rcases h with rfl | rfl <;> rcases hx rfl with rfl | rfl <;> rcases hy rfl with rfl | rfl <;> decide
section PSM
variable {SM SS : zS} {m ro : Nat} {sx : Nat → Nat}
theorem sem_ps (hs : stOk SS m) (hR : sR SM SS m) (hro : ro < m) (hrt : ¬ za SS 1 ro = 0) : ∀ n : Nat,
    (∀ p op R, ps sx n 0 p op = some R → R.1 = true → SEM SM SS ro true R.2.2) ∧
    (∀ p op R, ps sx n 1 p op = some R → R.1 = true → ∀ c0, SEM SM SS ro true c0 → SEM SM SS ro true (c0 ++ R.2.2)) ∧
    (∀ p op R, ps sx n 2 p op = some R → R.1 = true → SEM SM SS ro true R.2.2) ∧
    (∀ p op R, ps sx n 3 p op = some R → R.1 = true → ∀ c0, SEM SM SS ro true c0 → SEM SM SS ro true (c0 ++ R.2.2)) ∧
    (∀ p op R, ps sx n 4 p op = some R → R.1 = true → SEM SM SS ro true R.2.2) ∧
    (∀ p op R, ps sx n 5 p op = some R → R.1 = true → SEM SM SS ro false R.2.2) ∧
    (∀ p op R, ps sx n 6 p op = some R → R.1 = true → ∀ c0, SEM SM SS ro false c0 → SEM SM SS ro false (c0 ++ R.2.2)) ∧
    (∀ p op R, ps sx n 7 p op = some R → R.1 = true → SEM SM SS ro false R.2.2) ∧
    (∀ p op R, ps sx n 8 p op = some R → R.1 = true → ∀ c0, SEM SM SS ro false c0 → SEM SM SS ro false (c0 ++ R.2.2)) ∧
    (∀ p op R, ps sx n 9 p op = some R → R.1 = true → SEM SM SS ro false R.2.2) ∧
    (∀ p op R, ps sx n 10 p op = some R → R.1 = true → ∀ c0 k, PTH SM SS ro c0 k → SEM SM SS ro false (c0 ++ R.2.2)) := by
  intro n
  induction n with
  | zero => refine ⟨?_, ?_, ?_, ?_, ?_, ?_, ?_, ?_, ?_, ?_, ?_⟩ <;> intro p op R h <;> cases h
  | succ n ih =>
    obtain ⟨i0, i1, i2, i3, i4, i5, i6, i7, i8, i9, i10⟩ := ih
    -- first, then a loop
    have two : ∀ {t : Bool} {r1 : Option zRs} {g : Nat → Option zRs} {R : zRs}, pthen r1 (fun p c => pcat c (g p)) = some R → R.1 = true → (∀ R1, r1 = some R1 → R1.1 = true → SEM SM SS ro t R1.2.2) → (∀ p R2, g p = some R2 → R2.1 = true → ∀ c0, SEM SM SS ro t c0 → SEM SM SS ro t (c0 ++ R2.2.2)) → SEM SM SS ro t R.2.2 := by
      intro t r1 g R h hR1 a1 a2
      obtain ⟨p1, c1, ⟨e1, rfl⟩ | ⟨e1, R2, e2, rfl⟩⟩ := ps_two (sx := sx) h
      · cases hR1
      · exact a2 p1 R2 e2 hR1 c1 (a1 _ e1 rfl)
    have loop : ∀ {t t' : Bool} {r1 : Option zRs} {g : Nat → Option zRs} {x : Nat} {R : zRs}, lpS r1 g x R → R.1 = true → (∀ R1, r1 = some R1 → R1.1 = true → SEM SM SS ro t R1.2.2) → (∀ p R2, g p = some R2 → R2.1 = true → ∀ c0, SEM SM SS ro t c0 → SEM SM SS ro t (c0 ++ R2.2.2)) → (∀ c0 c1, SEM SM SS ro t c0 → SEM SM SS ro t c1 → SEM SM SS ro t (c0 ++ (c1 ++ [(x, 0)]))) → ∀ c0, SEM SM SS ro t c0 → SEM SM SS ro t (c0 ++ R.2.2) := by
      intro t t' r1 g x R h hR1 a1 a2 a3 c0 hc0
      obtain ⟨p1, c1, ⟨e1, rfl⟩ | ⟨e1, R2, e2, rfl⟩⟩ := h
      · cases hR1
      · have := a2 p1 R2 e2 hR1 _ (a3 c0 c1 hc0 (a1 _ e1 rfl))
        rw [List.append_assoc] at this
        exact this
    have stay : ∀ {t : Bool} {p : Nat} {R : zRs}, R = (true, p, []) → ∀ c0, SEM SM SS ro t c0 → SEM SM SS ro t (c0 ++ R.2.2) := by
      intro t p R e c0 h
      subst e
      rw [List.append_nil]; exact h
    refine ⟨?_, ?_, ?_, ?_, ?_, ?_, ?_, ?_, ?_, ?_, ?_⟩
    · exact fun p op R h hR1 => two h hR1 (fun R1 e q => i2 _ _ _ e q) (fun p R2 e q => i1 _ _ _ e q)
    · intro p op R h hR1
      by_cases hc : sx p = 124
      · exact loop (t' := true) (ps_1y h hc) hR1 (fun R1 e q => i2 _ _ _ e q) (fun p R2 e q => i1 _ _ _ e q) (fun c0 c1 a b => sem_bin a b (by decide) (hv_lg (Or.inr rfl)))
      · exact stay (ps_1n h hc)
    · exact fun p op R h hR1 => two h hR1 (fun R1 e q => i4 _ _ _ e q) (fun p R2 e q => i3 _ _ _ e q)
    · intro p op R h hR1
      by_cases hc : sx p = 38
      · exact loop (t' := true) (ps_3y h hc) hR1 (fun R1 e q => i4 _ _ _ e q) (fun p R2 e q => i3 _ _ _ e q) (fun c0 c1 a b => sem_bin a b (by decide) (hv_lg (Or.inl rfl)))
      · exact stay (ps_3n h hc)
    · intro p op R h hR1
      by_cases h1 : sx p = 33
      · by_cases ho : op = 12
        · have := p4_mn h h1 ho; subst this; cases hR1
        · obtain ⟨p1, c1, ⟨e1, rfl⟩ | ⟨e1, e2⟩⟩ := pthen_inv (p4_my h h1 ho)
          · cases hR1
          · cases e2; exact sem_un (i4 _ _ _ e1 rfl) (Or.inr ⟨rfl, rfl⟩)
      · by_cases h2 : sx p = 123
        · by_cases ho : op = 12
          · have := p4_pn h h1 h2 ho; subst this; cases hR1
          · obtain ⟨p1, c1, ⟨e1, rfl⟩ | ⟨e1, e2⟩⟩ := pthen_inv (p4_py h h1 h2 ho)
            · cases hR1
            · cases e2; show SEM SM SS ro true c1; exact i0 _ _ (true, p1, c1) e1 rfl
        · obtain ⟨p1, c1, ⟨e1, rfl⟩ | ⟨e1, e2⟩⟩ := pthen_inv (p4_c h h1 h2)
          · cases hR1
          · split at e2
            · obtain ⟨p3, c3, ⟨e3, rfl⟩ | ⟨e3, e4⟩⟩ := pthen_inv e2
              · cases hR1
              · cases e4
                have hcr : 15 ≤ cmpO (sx p1) ∧ cmpO (sx p1) ≤ 18 := by unfold cmpO; split <;> (try split) <;> (try split) <;> decide
                exact sem_bin (i5 _ _ _ e1 rfl) (i5 _ _ _ e3 rfl) (by omega) (hv_cmp hcr)
            · cases e2; cases hR1
    · exact fun p op R h hR1 => two h hR1 (fun R1 e q => i7 _ _ _ e q) (fun p R2 e q => i6 _ _ _ e q)
    · intro p op R h hR1
      by_cases hc : sx p = 43 ∨ sx p = 45
      · have hr : 10 ≤ addO (sx p) ∧ addO (sx p) ≤ 14 := by unfold addO; split <;> decide
        exact loop (t' := true) (ps_6y h hc) hR1 (fun R1 e q => i7 _ _ _ e q) (fun p R2 e q => i6 _ _ _ e q) (fun c0 c1 a b => sem_bin a b (by omega) (hv_ar hr))
      · exact stay (ps_6n h hc)
    · exact fun p op R h hR1 => two h hR1 (fun R1 e q => i9 _ _ _ e q) (fun p R2 e q => i8 _ _ _ e q)
    · intro p op R h hR1
      by_cases hc : sx p = 42 ∨ sx p = 47 ∨ sx p = 37
      · have hr : 10 ≤ mulO (sx p) ∧ mulO (sx p) ≤ 14 := by unfold mulO; split <;> (try split) <;> decide
        exact loop (t' := true) (ps_8y h hc) hR1 (fun R1 e q => i9 _ _ _ e q) (fun p R2 e q => i8 _ _ _ e q) (fun c0 c1 a b => sem_bin a b (by omega) (hv_ar hr))
      · exact stay (ps_8n h hc)
    · intro p op R h hR1
      by_cases h1 : sx p = 45
      · by_cases ho : op = 12
        · have := p9_mn h h1 ho; subst this; cases hR1
        · obtain ⟨p1, c1, ⟨e1, rfl⟩ | ⟨e1, e2⟩⟩ := pthen_inv (p9_my h h1 ho)
          · cases hR1
          · cases e2; exact sem_un (i9 _ _ _ e1 rfl) (Or.inl ⟨rfl, rfl⟩)
      · by_cases h2 : sx p = 40
        · by_cases ho : op = 12
          · have := p9_pn h h1 h2 ho; subst this; cases hR1
          · obtain ⟨p1, c1, ⟨e1, rfl⟩ | ⟨e1, e2⟩⟩ := pthen_inv (p9_py h h1 h2 ho)
            · cases hR1
            · cases e2; show SEM SM SS ro false c1; exact i5 _ _ (true, p1, c1) e1 rfl
        · cases hd : isD (sx p) with
          | true => have := p9_d h h1 h2 hd; subst this; exact sem_num _
          | false =>
            obtain ⟨R1, e1, rfl⟩ := pcat_inv (p9_x h h1 h2 hd)
            exact i10 _ _ _ e1 hR1 _ _ PTH_0
    · intro p op R h hR1 c0 k hc0
      by_cases h1 : sx p = 114
      · by_cases h2 : sx (p + 1) = 46
        · obtain ⟨R5, e5, rfl⟩ := p10_ry h h1 h2
          have := i10 _ _ _ e5 hR1 _ _ (PTH_s hs hR hro hrt hc0)
          rw [List.append_assoc] at this
          exact this
        · have := p10_rn h h1 h2; subst this; cases hR1
      · by_cases h2 : sx p = 116
        · by_cases h3 : ¬ sx (p + 1) = 91 ∨ op = 12
          · have := p10_tn h h1 h2 h3; subst this; cases hR1
          · obtain ⟨p1, c1, ⟨e1, rfl⟩ | ⟨e1, e2⟩⟩ := pthen_inv (p10_ty h h1 h2 h3)
            · cases hR1
            · cases e2; exact sem_item hs hR hro hrt hc0 (i5 _ _ _ e1 rfl)
        · by_cases h3 : fldO (sx p) = 0
          · have := p10_f0 h h1 h2 h3; subst this; cases hR1
          · have := p10_f h h1 h2 rfl h3; subst this
            exact sem_fld hs hR hro hrt hc0 (fldO_r h3)
end PSM

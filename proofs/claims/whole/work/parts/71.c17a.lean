/-! Kept as a whole: the rows that are in (D), their order, their groups -/
abbrev zD : Type := Option (Int64 × Int64 × Int64)
def fD (D : Nat → zD) : Nat → List zRow
  | 0 => []
  | o + 1 => match D o with
    | none => fD D o
    | some d => insS (o, d) (fD D o)
def lt2 (x y : zRow) : Prop := x.2.1 < y.2.1 ∨ (x.2.1 = y.2.1 ∧ x.1 < y.1)
theorem lt2_as {x y : zRow} (h : lt2 x y) (h2 : lt2 y x) : False := by
  unfold lt2 at h h2
  rw [Int64.lt_iff_toInt_lt] at h h2
  rcases h with h | ⟨h, h'⟩ <;> rcases h2 with q | ⟨q, q'⟩
  · omega
  · rw [q] at h; omega
  · rw [h] at q; omega
  · omega
theorem insS_lt2 (x : zRow) : ∀ l : List zRow, l.Pairwise lt2 → (∀ y ∈ l, y.1 < x.1) → (insS x l).Pairwise lt2
  | [], _, _ => by simp [insS]
  | y :: l, h, hx => by
    rw [List.pairwise_cons] at h
    simp only [insS]
    split
    next hlt =>
      refine List.pairwise_cons.mpr ⟨fun z hz => ?_, List.pairwise_cons.mpr h⟩
      rcases List.mem_cons.mp hz with rfl | hz
      · exact Or.inl hlt
      · left
        have := h.1 z hz
        unfold lt2 at this
        rw [Int64.lt_iff_toInt_lt] at *
        rcases this with t | ⟨t, -⟩
        · omega
        · rw [← t]; exact hlt
    next hge =>
      refine List.pairwise_cons.mpr ⟨fun z hz => ?_, insS_lt2 x l h.2 (fun z hz => hx z (List.mem_cons_of_mem _ hz))⟩
      rcases (insS_mem x l z).mp hz with rfl | hz
      · have hy := hx y List.mem_cons_self
        rcases Classical.em (y.2.1 = z.2.1) with e | e
        · exact Or.inr ⟨e, hy⟩
        · left
          have h1 : y.2.1 ≤ z.2.1 := i64le hge
          rw [Int64.lt_iff_toInt_lt]
          rw [Int64.le_iff_toInt_le] at h1
          have : ¬ y.2.1.toInt = z.2.1.toInt := fun q => e (Int64.toInt_inj.mp q)
          omega
      · exact h.1 z hz
theorem fD_mem (D : Nat → zD) : ∀ (n : Nat) (x : zRow), x ∈ fD D n ↔ x.1 < n ∧ D x.1 = some x.2
  | 0, x => by simp [fD]
  | n + 1, x => by
    simp only [fD]
    cases h : D n with
    | none =>
      show x ∈ fD D n ↔ _
      rw [fD_mem D n x]
      constructor
      · rintro ⟨a, b⟩; exact ⟨by omega, b⟩
      · rintro ⟨a, b⟩
        refine ⟨?_, b⟩
        rcases Nat.lt_or_ge x.1 n with q | q
        · exact q
        · have : x.1 = n := by omega
          rw [this, h] at b; cases b
    | some d =>
      show x ∈ insS (n, d) (fD D n) ↔ _
      rw [insS_mem, fD_mem D n x]
      constructor
      · rintro (e | ⟨a, b⟩)
        · subst e; exact ⟨by omega, h⟩
        · exact ⟨by omega, b⟩
      · rintro ⟨a, b⟩
        rcases Nat.lt_or_ge x.1 n with q | q
        · exact Or.inr ⟨q, b⟩
        · have e : x.1 = n := by omega
          rw [e, h] at b
          left
          cases b
          exact Prod.ext e rfl
theorem fD_lt2 (D : Nat → zD) : ∀ n : Nat, (fD D n).Pairwise lt2
  | 0 => List.Pairwise.nil
  | n + 1 => by
    simp only [fD]
    cases h : D n with
    | none => exact fD_lt2 D n
    | some d => exact insS_lt2 (n, d) _ (fD_lt2 D n) (fun y hy => ((fD_mem D n y).mp hy).1)
theorem srt_uniq : ∀ (l1 l2 : List zRow), l1.Pairwise lt2 → l2.Pairwise lt2 → (∀ x, x ∈ l1 ↔ x ∈ l2) → l1 = l2
  | [], [], _, _, _ => rfl
  | [], y :: l2, _, _, h => absurd ((h y).mpr List.mem_cons_self) (by simp)
  | x :: l1, [], _, _, h => absurd ((h x).mp List.mem_cons_self) (by simp)
  | x :: l1, y :: l2, h1, h2, h => by
    rw [List.pairwise_cons] at h1 h2
    have e : x = y := by
      rcases List.mem_cons.mp ((h x).mp List.mem_cons_self) with e | hx
      · exact e
      · rcases List.mem_cons.mp ((h y).mpr List.mem_cons_self) with e | hy
        · exact e.symm
        · exact (lt2_as (h1.1 y hy) (h2.1 x hx)).elim
    subst e
    have ir : ∀ z, lt2 x z → ¬ z = x := fun z hz e => by rw [e] at hz; exact lt2_as hz hz
    rw [srt_uniq l1 l2 h1.2 h2.2 (fun z => ?_)]
    constructor
    · intro hz
      rcases List.mem_cons.mp ((h z).mp (List.mem_cons_of_mem _ hz)) with e | q
      · exact absurd e (ir z (h1.1 z hz))
      · exact q
    · intro hz
      rcases List.mem_cons.mp ((h z).mpr (List.mem_cons_of_mem _ hz)) with e | q
      · exact absurd e (ir z (h2.1 z hz))
      · exact q
theorem fD_len (D : Nat → zD) : ∀ n : Nat, (fD D n).length ≤ n
  | 0 => Nat.le_refl 0
  | n + 1 => by
    have := fD_len D n
    simp only [fD]
    cases h : D n with
    | none => show (fD D n).length ≤ n + 1; omega
    | some d => show (insS (n, d) (fD D n)).length ≤ n + 1; rw [insS_len]; omega
def oD (D : Nat → zD) : List Nat := (fD D 60).map (·.1)
def updD (D : Nat → zD) (o : Nat) (d : zD) : Nat → zD := fun i => if i = o then d else D i
theorem updD_id {D : Nat → zD} {o : Nat} (h : D o = none) : updD D o none = D := by
  funext i; unfold updD
  by_cases e : i = o
  · rw [if_pos e, e, h]
  · rw [if_neg e]
theorem updD_2 (D : Nat → zD) (o : Nat) (d d' : zD) : updD (updD D o d) o d' = updD D o d' := by
  funext i; unfold updD
  by_cases e : i = o
  · rw [if_pos e, if_pos e]
  · rw [if_neg e, if_neg e, if_neg e]
/-- o goes -/
theorem fD_out (D : Nat → zD) (o : Nat) : fD (updD D o none) 60 = (fD D 60).filter (fun x => decide (¬ x.1 = o)) := by
  refine srt_uniq _ _ (fD_lt2 _ 60) ((fD_lt2 D 60).filter _) (fun x => ?_)
  rw [fD_mem, List.mem_filter, fD_mem]
  unfold updD
  by_cases e : x.1 = o
  · simp [e]
  · simp [e]
theorem oD_out (D : Nat → zD) (o : Nat) : oD (updD D o none) = (oD D).filter (fun x => decide (¬ x = o)) := by
  unfold oD
  rw [fD_out, List.filter_map]
  rfl
theorem fD_split {D : Nat → zD} {o : Nat} {d : Int64 × Int64 × Int64} (ho : o < 60) (h : D o = some d) : ∃ i, (fD D 60)[i]? = some (o, d) ∧ fD (updD D o none) 60 = (fD D 60).take i ++ (fD D 60).drop (i + 1) := by
  have hm : (o, d) ∈ fD D 60 := (fD_mem D 60 (o, d)).mpr ⟨ho, h⟩
  obtain ⟨i, hi, e⟩ := List.getElem_of_mem hm
  refine ⟨i, by rw [List.getElem?_eq_getElem hi, e], ?_⟩
  have hs := fD_lt2 D 60
  have e0 : (fD D 60) = (fD D 60).take i ++ (o, d) :: (fD D 60).drop (i + 1) := by
    rw [← e, ← List.drop_eq_getElem_cons hi, List.take_append_drop]
  rw [fD_out]
  have nd : ∀ y ∈ fD D 60, y.1 = o → y = (o, d) := fun y hy q => by
    have := ((fD_mem D 60 y).mp hy).2
    rw [q, h] at this
    exact Prod.ext q (Option.some.inj this).symm
  have hl : ∀ y ∈ (fD D 60).take i, ¬ y.1 = o := fun y hy q => by
    have q2 := nd y (List.mem_of_mem_take hy) q
    rw [e0, List.pairwise_append] at hs
    have := hs.2.2 y hy (o, d) List.mem_cons_self
    rw [q2] at this
    exact lt2_as this this
  have hr : ∀ y ∈ (fD D 60).drop (i + 1), ¬ y.1 = o := fun y hy q => by
    have q2 := nd y (List.mem_of_mem_drop hy) q
    rw [e0, List.pairwise_append, List.pairwise_cons] at hs
    have := hs.2.1.1 y hy
    rw [q2] at this
    exact lt2_as this this
  have fl : ∀ l : List zRow, (∀ y ∈ l, ¬ y.1 = o) → l.filter (fun x => decide (¬ x.1 = o)) = l := fun l hl => List.filter_eq_self.mpr (fun y hy => decide_eq_true (hl y hy))
  conv => lhs; rw [e0]
  rw [List.filter_append, fl _ hl, List.filter_cons, if_neg (by simp), fl _ hr]
/-- o comes: behind all that are before it -/
theorem fD_in {D : Nat → zD} {o k : Nat} {d : Int64 × Int64 × Int64} (ho : o < 60) (h : D o = none) (hk : k ≤ (fD D 60).length) (h1 : ∀ (j : Nat) y, (fD D 60)[j]? = some y → k ≤ j → lt2 (o, d) y) (h2 : ∀ (j : Nat) y, (fD D 60)[j]? = some y → j + 1 = k → lt2 y (o, d)) : fD (updD D o (some d)) 60 = (fD D 60).take k ++ (o, d) :: (fD D 60).drop k := by
  have hs := fD_lt2 D 60
  have tr : ∀ {x y z : zRow}, lt2 x y → lt2 y z → lt2 x z := by
    intro x y z a b
    unfold lt2 at *
    rw [Int64.lt_iff_toInt_lt] at *
    rcases a with a | ⟨a, a'⟩ <;> rcases b with b | ⟨b, b'⟩
    · left; omega
    · left; rw [← b]; exact a
    · left; rw [a]; exact b
    · exact Or.inr ⟨a.trans b, by omega⟩
  have g1 : ∀ y ∈ (fD D 60).drop k, lt2 (o, d) y := fun y hy => by
    obtain ⟨j, hj, e⟩ := List.getElem_of_mem hy
    have : ((fD D 60).drop k)[j]? = some y := by rw [List.getElem?_eq_getElem hj, e]
    rw [List.getElem?_drop] at this
    exact h1 (k + j) y this (by omega)
  have g2 : ∀ y ∈ (fD D 60).take k, lt2 y (o, d) := fun y hy => by
    obtain ⟨j, hj, e⟩ := List.getElem_of_mem hy
    have hjk : j < k := by rw [List.length_take] at hj; omega
    have hy' : (fD D 60)[j]? = some y := by
      have : ((fD D 60).take k)[j]? = some y := by rw [List.getElem?_eq_getElem hj, e]
      rw [List.getElem?_take_of_lt hjk] at this; exact this
    by_cases e2 : j + 1 = k
    · exact h2 j y hy' e2
    · have hz : (fD D 60)[k - 1]? = some ((fD D 60)[k - 1]'(by omega)) := List.getElem?_eq_getElem (by omega)
      have a := h2 (k - 1) _ hz (by omega)
      have hyl := List.getElem?_eq_some_iff.mp hy'
      have b := List.pairwise_iff_getElem.mp hs j (k - 1) hyl.1 (by omega) (by omega)
      rw [hyl.2] at b
      exact tr b a
  refine srt_uniq _ _ (fD_lt2 _ 60) ?_ (fun x => ?_)
  · refine List.pairwise_append.mpr ⟨hs.sublist (List.take_sublist _ _), List.pairwise_cons.mpr ⟨g1, hs.sublist (List.drop_sublist _ _)⟩, fun a ha b hb => ?_⟩
    rcases List.mem_cons.mp hb with rfl | hb
    · exact g2 a ha
    · exact tr (g2 a ha) (g1 b hb)
  · rw [fD_mem, List.mem_append, List.mem_cons]
    have hm : x ∈ fD D 60 ↔ x ∈ (fD D 60).take k ∨ x ∈ (fD D 60).drop k := by
      conv => lhs; rw [← List.take_append_drop k (fD D 60)]
      exact List.mem_append
    rw [fD_mem] at hm
    unfold updD
    by_cases e : x.1 = o
    · rw [if_pos e]
      constructor
      · rintro ⟨-, q⟩; exact Or.inr (Or.inl (Prod.ext e (Option.some.inj q).symm))
      · rintro (q | q | q)
        · have := (hm.mpr (Or.inl q)).2; rw [e, h] at this; cases this
        · subst q; exact ⟨ho, rfl⟩
        · have := (hm.mpr (Or.inr q)).2; rw [e, h] at this; cases this
    · rw [if_neg e, hm]
      constructor
      · rintro (q | q)
        · exact Or.inl q
        · exact Or.inr (Or.inr q)
      · rintro (q | q | q)
        · exact Or.inl q
        · subst q; exact absurd rfl e
        · exact Or.inr q
/-! groups: the order of the rows does not matter, and what was put in comes out -/
def t128 (g : zRow) : Nat := uN g.2.2.1 + 18446744073709551616 * uN g.2.2.2
def sx128 (s : Int64) : Nat := uN s + (if 0 ≤ s then 0 else 18446744073709551616 * 18446744073709551615)
theorem uN_inj {x y : Int64} (h : uN x = uN y) : x = y := Int64.toBitVec_inj.mp (BitVec.eq_of_toNat_eq h)
theorem t128_inj {g h : zRow} (h1 : g.1 = h.1) (h2 : g.2.1 = h.2.1) (h3 : t128 g = t128 h) : g = h := by
  have a1 := uN_lt g.2.2.1
  have a2 := uN_lt h.2.2.1
  unfold t128 at h3
  exact Prod.ext h1 (Prod.ext h2 (Prod.ext (uN_inj (by omega)) (uN_inj (by omega))))
theorem up128 (s : Int64) (g : zRow) : (upG s g).1 = g.1 + 1 ∧ (upG s g).2.1 = g.2.1 ∧ t128 (upG s g) = (t128 g + sx128 s) % 340282366920938463463374607431768211456 := by
  have hl := uN_lt g.2.2.1
  have hh := uN_lt g.2.2.2
  have hs := uN_lt s
  have hm : uN (-1 : Int64) = 18446744073709551615 := by decide
  have h1 : uN ((1 : Int32).toInt64) = 1 := by decide
  have h0 : uN ((0 : Int32).toInt64) = 0 := by decide
  have hz : uN (0 : Int64) = 0 := by decide
  cases hb : ltU (g.2.2.1 + s) s with
  | true =>
    rw [upG_t hb]
    refine ⟨rfl, rfl, ?_⟩
    have hb2 : uN (g.2.2.1 + s) < uN s := of_decide_eq_true hb
    rw [uN_add] at hb2
    unfold t128 sx128
    dsimp only
    by_cases h : 0 ≤ s
    · rw [if_pos h, if_pos h, uN_add, uN_add, uN_add, h1, hz]; omega
    · rw [if_neg h, if_neg h, uN_add, uN_add, uN_add, h1, hm]; omega
  | false =>
    rw [upG_f hb]
    refine ⟨rfl, rfl, ?_⟩
    have hb2 : ¬ uN (g.2.2.1 + s) < uN s := of_decide_eq_false hb
    rw [uN_add] at hb2
    unfold t128 sx128
    dsimp only
    by_cases h : 0 ≤ s
    · rw [if_pos h, if_pos h, uN_add, uN_add, uN_add, h0, hz]; omega
    · rw [if_neg h, if_neg h, uN_add, uN_add, uN_add, h0, hm]; omega
theorem t128_lt (g : zRow) : t128 g < 340282366920938463463374607431768211456 := by
  have hl := uN_lt g.2.2.1
  have hh := uN_lt g.2.2.2
  unfold t128; omega
theorem sx128_lt (s : Int64) : sx128 s < 340282366920938463463374607431768211456 := by
  have hs := uN_lt s
  unfold sx128; split <;> omega
theorem upG_comm (a b : Int64) (g : zRow) : upG a (upG b g) = upG b (upG a g) := by
  obtain ⟨p1, p2, p3⟩ := up128 a (upG b g)
  obtain ⟨q1, q2, q3⟩ := up128 b g
  obtain ⟨r1, r2, r3⟩ := up128 b (upG a g)
  obtain ⟨s1, s2, s3⟩ := up128 a g
  refine t128_inj (by rw [p1, q1, r1, s1]) (by rw [p2, q2, r2, s2]) ?_
  rw [p3, q3, r3, s3]
  omega
theorem dn128 (s : Int64) (g : zRow) : dnG s (upG s g) = g := by
  obtain ⟨p1, p2, p3⟩ := up128 s g
  have hl := uN_lt (upG s g).2.2.1
  have hh := uN_lt (upG s g).2.2.2
  have hs := uN_lt s
  have hm : uN (-1 : Int64) = 18446744073709551615 := by decide
  have h1 : uN (1 : Int64) = 1 := by decide
  have hz : uN (0 : Int64) = 0 := by decide
  have hg := t128_lt g
  have hx := sx128_lt s
  refine t128_inj (by show (upG s g).1 - 1 = g.1; rw [p1]; rfl) p2 ?_
  unfold t128 at p3 ⊢
  show uN ((upG s g).2.2.1 - s) + 18446744073709551616 * uN ((upG s g).2.2.2 - _) = _
  generalize (upG s g).2.2.1 = lo at p3 hl ⊢
  generalize (upG s g).2.2.2 = hi at p3 hh ⊢
  have hg1 := uN_lt g.2.2.1
  have hg2 := uN_lt g.2.2.2
  unfold sx128 at p3
  by_cases h : 0 ≤ s
  · rw [if_pos h] at p3 ⊢
    by_cases c : ltU lo s = true
    · have c2 : uN lo < uN s := of_decide_eq_true c
      rw [if_pos c, uN_sub, uN_sub, uN_add, h1, hz]; omega
    · have c2 : ¬ uN lo < uN s := fun q => c (decide_eq_true q)
      rw [if_neg c, uN_sub, uN_sub, uN_add, hz]; omega
  · rw [if_neg h] at p3 ⊢
    by_cases c : ltU lo s = true
    · have c2 : uN lo < uN s := of_decide_eq_true c
      rw [if_pos c, uN_sub, uN_sub, uN_add, h1, hm]; omega
    · have c2 : ¬ uN lo < uN s := fun q => c (decide_eq_true q)
      rw [if_neg c, uN_sub, uN_sub, uN_add, hz, hm]; omega

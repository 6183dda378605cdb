/-! groups as a fold: order does not matter -/
theorem l_trich (a b : Int64) : a < b ∨ a = b ∨ b < a := by
  rw [Int64.lt_iff_toInt_lt, Int64.lt_iff_toInt_lt]
  rcases Int.lt_trichotomy a.toInt b.toInt with h | h | h
  · exact Or.inl h
  · exact Or.inr (Or.inl (Int64.toInt_inj.mp h))
  · exact Or.inr (Or.inr h)
theorem l_ne {a b : Int64} (h : a < b) : ¬ a = b := fun e => by rw [e, Int64.lt_iff_toInt_lt] at h; omega
theorem l_as {a b : Int64} (h : a < b) : ¬ b < a := fun e => by rw [Int64.lt_iff_toInt_lt] at h e; omega
theorem l_tr {a b c : Int64} (h : a < b) (h2 : b < c) : a < c := by rw [Int64.lt_iff_toInt_lt] at *; omega
theorem l_ir (a : Int64) : ¬ a < a := fun h => by rw [Int64.lt_iff_toInt_lt] at h; omega
theorem addG_lt {v s : Int64} {g : zRow} {l : List zRow} (h : g.2.1 < v) : addG v s (g :: l) = g :: addG v s l := by simp only [addG]; rw [if_pos h]
theorem addG_at {v s : Int64} {g : zRow} {l : List zRow} (h : g.2.1 = v) : addG v s (g :: l) = upG s g :: l := by simp only [addG]; rw [if_neg (by rw [h]; exact l_ir v), if_pos h]
theorem addG_gt {v s : Int64} {g : zRow} {l : List zRow} (h : v < g.2.1) : addG v s (g :: l) = upG s (0, v, 0, 0) :: g :: l := by simp only [addG]; rw [if_neg (l_as h), if_neg (fun e => l_ne h e.symm)]
theorem upG_v (s : Int64) (g : zRow) : (upG s g).2.1 = g.2.1 := rfl
theorem addG_same (v a b : Int64) : ∀ L : List zRow, addG v a (addG v b L) = addG v b (addG v a L)
  | [] => by
    show addG v a [upG b (0, v, 0, 0)] = addG v b [upG a (0, v, 0, 0)]
    rw [addG_at (show (upG b (0, v, 0, 0)).2.1 = v from rfl), addG_at (show (upG a (0, v, 0, 0)).2.1 = v from rfl), upG_comm]
  | g :: l => by
    rcases l_trich g.2.1 v with h | h | h
    · rw [addG_lt h, addG_lt h, addG_lt h, addG_lt h, addG_same v a b l]
    · rw [addG_at h, addG_at h, addG_at (show (upG b g).2.1 = v from h), addG_at (show (upG a g).2.1 = v from h), upG_comm]
    · rw [addG_gt h, addG_gt h, addG_at (show (upG b (0, v, 0, 0)).2.1 = v from rfl), addG_at (show (upG a (0, v, 0, 0)).2.1 = v from rfl), upG_comm]
theorem addG_less {v w : Int64} (a b : Int64) (hvw : v < w) : ∀ L : List zRow, addG v a (addG w b L) = addG w b (addG v a L)
  | [] => by
    show addG v a [upG b (0, w, 0, 0)] = addG w b [upG a (0, v, 0, 0)]
    rw [addG_gt (show v < (upG b (0, w, 0, 0)).2.1 from hvw), addG_lt (show (upG a (0, v, 0, 0)).2.1 < w from hvw)]
    rfl
  | g :: l => by
    rcases l_trich g.2.1 v with h | h | h
    · rw [addG_lt h, addG_lt (l_tr h hvw), addG_lt h, addG_lt (l_tr h hvw), addG_less a b hvw l]
    · have h2 : g.2.1 < w := by rw [h]; exact hvw
      rw [addG_lt h2, addG_at h, addG_at h, addG_lt (show (upG a g).2.1 < w from h2)]
    · rw [addG_gt h, addG_lt (show (upG a (0, v, 0, 0)).2.1 < w from hvw)]
      rcases l_trich g.2.1 w with q | q | q
      · rw [addG_lt q, addG_gt h]
      · rw [addG_at q, addG_gt (show v < (upG b g).2.1 from h)]
      · rw [addG_gt q, addG_gt (show v < (upG b (0, w, 0, 0)).2.1 from hvw)]
theorem addG_comm (v a w b : Int64) (L : List zRow) : addG v a (addG w b L) = addG w b (addG v a L) := by
  rcases l_trich v w with h | h | h
  · exact addG_less a b h L
  · subst h; exact addG_same v a b L
  · exact (addG_less b a h L).symm
theorem gL_eq (R : List zRow) : gL R = R.foldl (fun G x => addG x.2.2.1 x.2.2.2 G) [] := by unfold gL gl; rw [List.take_length]
theorem gL_perm {R1 R2 : List zRow} (h : R1.Perm R2) : gL R1 = gL R2 := by
  rw [gL_eq, gL_eq]
  exact h.foldl_eq' (fun x _ y _ z => addG_comm _ _ _ _ z) []
theorem gL_snoc (R : List zRow) (x : zRow) : gL (R ++ [x]) = addG x.2.2.1 x.2.2.2 (gL R) := by
  rw [gL_eq, gL_eq, List.foldl_append]; rfl
theorem gL_mid (A B : List zRow) (x : zRow) : gL (A ++ x :: B) = addG x.2.2.1 x.2.2.2 (gL (A ++ B)) := by
  rw [← gL_snoc]
  refine gL_perm (List.perm_middle.trans ?_)
  exact (List.perm_append_singleton x (A ++ B)).symm
theorem addG_all {P : zRow → Prop} {v s : Int64} (h0 : P (upG s (0, v, 0, 0))) (h1 : ∀ g, P g → P (upG s g)) : ∀ L : List zRow, (∀ g ∈ L, P g) → ∀ g ∈ addG v s L, P g
  | [], _, g, hg => by
    have : g = upG s (0, v, 0, 0) := by simpa [addG] using hg
    rw [this]; exact h0
  | y :: l, h, g, hg => by
    rcases l_trich y.2.1 v with q | q | q
    · rw [addG_lt q] at hg
      rcases List.mem_cons.mp hg with e | e
      · rw [e]; exact h y List.mem_cons_self
      · exact addG_all h0 h1 l (fun z hz => h z (List.mem_cons_of_mem _ hz)) g e
    · rw [addG_at q] at hg
      rcases List.mem_cons.mp hg with e | e
      · rw [e]; exact h1 y (h y List.mem_cons_self)
      · exact h g (List.mem_cons_of_mem _ e)
    · rw [addG_gt q] at hg
      rcases List.mem_cons.mp hg with e | e
      · rw [e]; exact h0
      · exact h g e
/-- each group has rows, and no more than there are -/
theorem addG_cnt {v s : Int64} {n : Nat} : ∀ L : List zRow, (∀ g ∈ L, 1 ≤ g.1 ∧ g.1 ≤ n) → ∀ g ∈ addG v s L, 1 ≤ g.1 ∧ g.1 ≤ n + 1
  | [], _, g, hg => by
    have : g = upG s (0, v, 0, 0) := by simpa [addG] using hg
    rw [this]; show 1 ≤ 0 + 1 ∧ 0 + 1 ≤ n + 1; omega
  | y :: l, h, g, hg => by
    have hy := h y List.mem_cons_self
    have hw : ∀ z ∈ l, 1 ≤ z.1 ∧ z.1 ≤ n + 1 := fun z hz => by have := h z (List.mem_cons_of_mem _ hz); omega
    rcases l_trich y.2.1 v with q | q | q
    · rw [addG_lt q] at hg
      rcases List.mem_cons.mp hg with e | e
      · rw [e]; omega
      · exact addG_cnt l (fun z hz => h z (List.mem_cons_of_mem _ hz)) g e
    · rw [addG_at q] at hg
      rcases List.mem_cons.mp hg with e | e
      · rw [e]; show 1 ≤ y.1 + 1 ∧ y.1 + 1 ≤ n + 1; omega
      · exact hw g e
    · rw [addG_gt q] at hg
      rcases List.mem_cons.mp hg with e | e
      · rw [e]; show 1 ≤ 0 + 1 ∧ 0 + 1 ≤ n + 1; omega
      · rcases List.mem_cons.mp e with e | e
        · rw [e]; omega
        · exact hw g e
theorem fold_cnt : ∀ (R G : List zRow) (n : Nat), (∀ g ∈ G, 1 ≤ g.1 ∧ g.1 ≤ n) → ∀ g ∈ R.foldl (fun G x => addG x.2.2.1 x.2.2.2 G) G, 1 ≤ g.1 ∧ g.1 ≤ n + R.length
  | [], _, _, h => h
  | x :: R, G, n, h => by
    have := fold_cnt R (addG x.2.2.1 x.2.2.2 G) (n + 1) (addG_cnt G h)
    intro g hg
    have q := this g hg
    simp only [List.length_cons]
    omega
theorem gL_cnt (R : List zRow) : ∀ g ∈ gL R, 1 ≤ g.1 ∧ g.1 ≤ R.length := by
  rw [gL_eq]
  have := fold_cnt R [] 0 (fun g hg => absurd hg (by simp))
  rw [Nat.zero_add] at this
  exact this
abbrev pG (L : List zRow) : Prop := L.Pairwise (fun a b => a.2.1 < b.2.1)
theorem addG_mv {v s : Int64} : ∀ (L : List zRow) (g : zRow), g ∈ addG v s L → g.2.1 = v ∨ ∃ y ∈ L, y.2.1 = g.2.1
  | [], g, hg => by
    have : g = upG s (0, v, 0, 0) := by simpa [addG] using hg
    rw [this]; exact Or.inl rfl
  | y :: l, g, hg => by
    rcases l_trich y.2.1 v with q | q | q
    · rw [addG_lt q] at hg
      rcases List.mem_cons.mp hg with e | e
      · exact Or.inr ⟨y, List.mem_cons_self, by rw [e]⟩
      · rcases addG_mv l g e with t | ⟨z, hz, t⟩
        · exact Or.inl t
        · exact Or.inr ⟨z, List.mem_cons_of_mem _ hz, t⟩
    · rw [addG_at q] at hg
      rcases List.mem_cons.mp hg with e | e
      · rw [e]; exact Or.inl q
      · exact Or.inr ⟨g, List.mem_cons_of_mem _ e, rfl⟩
    · rw [addG_gt q] at hg
      rcases List.mem_cons.mp hg with e | e
      · rw [e]; exact Or.inl rfl
      · exact Or.inr ⟨g, e, rfl⟩
theorem addG_p {v s : Int64} : ∀ L : List zRow, pG L → pG (addG v s L)
  | [], _ => by simp [addG, pG]
  | y :: l, h => by
    have h' := List.pairwise_cons.mp h
    rcases l_trich y.2.1 v with q | q | q
    · rw [addG_lt q]
      refine List.pairwise_cons.mpr ⟨fun z hz => ?_, addG_p l h'.2⟩
      rcases addG_mv l z hz with t | ⟨w, hw, t⟩
      · rw [t]; exact q
      · rw [← t]; exact h'.1 w hw
    · rw [addG_at q]
      exact List.pairwise_cons.mpr ⟨fun z hz => h'.1 z hz, h'.2⟩
    · rw [addG_gt q]
      refine List.pairwise_cons.mpr ⟨fun z hz => ?_, h⟩
      rcases List.mem_cons.mp hz with e | e
      · rw [e]; exact q
      · exact l_tr q (h'.1 z e)
theorem fold_p : ∀ (R G : List zRow), pG G → pG (R.foldl (fun G x => addG x.2.2.1 x.2.2.2 G) G)
  | [], _, h => h
  | x :: R, G, h => fold_p R _ (addG_p G h)
theorem gL_p (R : List zRow) : pG (gL R) := by rw [gL_eq]; exact fold_p R [] List.Pairwise.nil
theorem pG_sr {L : List zRow} (h : pG L) : srG L := by
  intro i j a b hij ha hb
  have q := List.pairwise_iff_getElem.mp h i j (List.getElem?_eq_some_iff.mp ha).1 (List.getElem?_eq_some_iff.mp hb).1 hij
  rw [(List.getElem?_eq_some_iff.mp ha).2, (List.getElem?_eq_some_iff.mp hb).2] at q
  exact q
theorem sub_add (v s : Int64) : ∀ L : List zRow, (∀ g ∈ L, 1 ≤ g.1) → ∃ k y, (addG v s L)[k]? = some y ∧ y.2.1 = v ∧ 1 ≤ y.1 ∧ subG k s y (addG v s L) = L
  | [], _ => ⟨0, upG s (0, v, 0, 0), rfl, rfl, by show 1 ≤ 0 + 1; omega, by
    unfold subG; rw [if_pos (show (upG s (0, v, 0, 0)).1 = 1 from rfl)]; rfl⟩
  | g :: l, h => by
    rcases l_trich g.2.1 v with q | q | q
    · obtain ⟨k, y, h1, h2, h3, h4⟩ := sub_add v s l (fun z hz => h z (List.mem_cons_of_mem _ hz))
      rw [addG_lt q]
      refine ⟨k + 1, y, by simpa using h1, h2, h3, ?_⟩
      unfold subG at h4 ⊢
      by_cases e : y.1 = 1
      · rw [if_pos e] at h4 ⊢; rw [List.eraseIdx_cons_succ, h4]
      · rw [if_neg e] at h4 ⊢; rw [List.set_cons_succ, h4]
    · rw [addG_at q]
      have hg := h g List.mem_cons_self
      refine ⟨0, upG s g, rfl, q, by show 1 ≤ g.1 + 1; omega, ?_⟩
      unfold subG
      rw [if_neg (show ¬ (upG s g).1 = 1 from by show ¬ g.1 + 1 = 1; omega), dn128]
      rfl
    · rw [addG_gt q]
      refine ⟨0, upG s (0, v, 0, 0), rfl, rfl, by show 1 ≤ 0 + 1; omega, ?_⟩
      unfold subG
      rw [if_pos (show (upG s (0, v, 0, 0)).1 = 1 from rfl)]
      rfl
theorem gL_len (R : List zRow) : (gL R).length ≤ R.length := gl_len R R.length
/-! what Kept holds, for rows D -/
def kI (D : Nat → zD) (inn : Nat → Int32) (ky gv am : Nat → Int64) (od : Nat → Int32) : Prop := hoO (oD D) od ∧ (∀ o : Nat, o < 60 → inn o = bI (D o).isSome) ∧ ∀ (o : Nat) (k g a : Int64), o < 60 → D o = some (k, g, a) → ky o = k ∧ gv o = g ∧ am o = a
def gI_ (D : Nat → zD) (S : zS) : Prop := zi S 0 = nI (gL (fD D 60)).length ∧ hoR (gL (fD D 60)) (za S 2) (zb S 1) (zb S 3) (zb S 4)
theorem oD_len (D : Nat → zD) : (oD D).length = (fD D 60).length := by unfold oD; rw [List.length_map]
theorem oD_60 (D : Nat → zD) : (oD D).length ≤ 60 := by rw [oD_len]; exact fD_len D 60
theorem oD_lt (D : Nat → zD) : ∀ (i x : Nat), (oD D)[i]? = some x → x < 60 ∧ ∃ d, (fD D 60)[i]? = some (x, d) := by
  intro i x h
  unfold oD at h
  rw [List.getElem?_map] at h
  cases e : (fD D 60)[i]? with
  | none => rw [e] at h; cases h
  | some y =>
    rw [e] at h
    cases h
    exact ⟨((fD_mem D 60 y).mp (List.mem_of_getElem? e)).1, y.2, rfl⟩
theorem kI_out {D : Nat → zD} {inn : Nat → Int32} {ky gv am : Nat → Int64} {od od' : Nat → Int32} {o : Nat} (h : kI D inn ky gv am od) (hod : hoO ((oD D).filter (fun x => decide (¬ x = o))) od') : kI (updD D o none) (upd inn o 0) ky gv am od' := by
  refine ⟨by rw [oD_out]; exact hod, fun i hi => ?_, fun i k g a hi hd => ?_⟩
  · unfold updD
    by_cases e : i = o
    · subst e; rw [pk_us, if_pos rfl]; rfl
    · rw [pk_un e, if_neg e]; exact h.2.1 i hi
  · unfold updD at hd
    by_cases e : i = o
    · rw [if_pos e] at hd; cases hd
    · rw [if_neg e] at hd; exact h.2.2 i k g a hi hd
/-- what subtract needs, and what it gives -/
theorem gI_sub {D : Nat → zD} {o : Nat} {k g a : Int64} (ho : o < 60) (h : D o = some (k, g, a)) : ∃ i y c, (gL (fD D 60))[i]? = some y ∧ y.2.1 = g ∧ y.1 = c + 1 ∧ c < 2 ^ 31 ∧ subG i a y (gL (fD D 60)) = gL (fD (updD D o none) 60) := by
  obtain ⟨j, hj, e⟩ := fD_split ho h
  have hl := (List.getElem?_eq_some_iff.mp hj)
  have e0 : (fD D 60) = (fD D 60).take j ++ (o, k, g, a) :: (fD D 60).drop (j + 1) := by
    rw [← hl.2, ← List.drop_eq_getElem_cons hl.1, List.take_append_drop]
  have e1 : gL (fD D 60) = addG g a (gL (fD (updD D o none) 60)) := by
    rw [e]
    conv => lhs; rw [e0]
    exact gL_mid _ _ _
  obtain ⟨i, y, h1, h2, h3, h4⟩ := sub_add g a (gL (fD (updD D o none) 60)) (fun z hz => (gL_cnt _ z hz).1)
  have hc := (gL_cnt (fD D 60) y (by rw [e1]; exact List.mem_of_getElem? h1)).2
  have hd := fD_len D 60
  exact ⟨i, y, y.1 - 1, by rw [e1]; exact h1, h2, by omega, by omega, by rw [e1]; exact h4⟩
theorem bf_lt2 {D : Nat → zD} {ky : Nat → Int64} {o : Nat} {d : Int64 × Int64 × Int64} (hk : ky o = d.1) {y : zRow} (hy : ky y.1 = y.2.1) : (bfB ky o y.1 = true → lt2 (o, d) y) ∧ (bfB ky o y.1 = false → ¬ y.1 = o → lt2 y (o, d)) := by
  unfold bfB lt2
  rw [hk, hy]
  by_cases e : d.1 = y.2.1
  · rw [if_pos e]
    exact ⟨fun h => Or.inr ⟨e, of_decide_eq_true h⟩, fun h hn => Or.inr ⟨e.symm, by have := of_decide_eq_false h; show y.1 < o; omega⟩⟩
  · rw [if_neg e]
    refine ⟨fun h => Or.inl (of_decide_eq_true h), fun h _ => Or.inl ?_⟩
    have h1 := of_decide_eq_false h
    rcases l_trich d.1 y.2.1 with q | q | q
    · exact absurd q h1
    · exact absurd q e
    · exact q
theorem fD_new {D : Nat → zD} {ky gv am : Nat → Int64} {o k : Nat} {d : Int64 × Int64 × Int64} (ho : o < 60) (hn : D o = none) (hD : ∀ (i : Nat) (k g a : Int64), i < 60 → D i = some (k, g, a) → ky i = k ∧ gv i = g ∧ am i = a) (hko : ky o = d.1)
    (hk : k ≤ (oD D).length) (h1 : ∀ (j y : Nat), (oD D)[j]? = some y → k ≤ j → bfB ky o y = true) (h2 : ∀ (j y : Nat), (oD D)[j]? = some y → j + 1 = k → bfB ky o y = false) :
    fD (updD D o (some d)) 60 = (fD D 60).take k ++ (o, d) :: (fD D 60).drop k ∧ oD (updD D o (some d)) = (oD D).take k ++ o :: (oD D).drop k := by
  have at_ : ∀ (j : Nat) (y : zRow), (fD D 60)[j]? = some y → (oD D)[j]? = some y.1 ∧ ky y.1 = y.2.1 ∧ ¬ y.1 = o := fun j y hy => by
    have hm := (fD_mem D 60 y).mp (List.mem_of_getElem? hy)
    refine ⟨by unfold oD; rw [List.getElem?_map, hy]; rfl, (hD y.1 y.2.1 y.2.2.1 y.2.2.2 hm.1 hm.2).1, fun e => by rw [e, hn] at hm; cases hm.2⟩
  have e := fD_in (d := d) ho hn (k := k) (by rw [← oD_len]; exact hk) (fun j y hy hj => by
    obtain ⟨a, b, c⟩ := at_ j y hy
    exact (bf_lt2 (D := D) hko b).1 (h1 j y.1 a hj)) (fun j y hy hj => by
    obtain ⟨a, b, c⟩ := at_ j y hy
    exact (bf_lt2 (D := D) hko b).2 (h2 j y.1 a hj) c)
  refine ⟨e, ?_⟩
  unfold oD
  rw [e, List.map_append, List.map_cons, List.map_take, List.map_drop]
theorem kI_in {D : Nat → zD} {inn : Nat → Int32} {ky gv am : Nat → Int64} {od' : Nat → Int32} {o : Nat} {k g a : Int64} (hin : ∀ i : Nat, i < 60 → inn i = bI (D i).isSome) (hD : ∀ (i : Nat) (k g a : Int64), i < 60 → D i = some (k, g, a) → ky i = k ∧ gv i = g ∧ am i = a) (hkg : ky o = k ∧ gv o = g ∧ am o = a) (hod : hoO (oD (updD D o (some (k, g, a)))) od') : kI (updD D o (some (k, g, a))) (upd inn o 1) ky gv am od' := by
  refine ⟨hod, fun i hi => ?_, fun i k' g' a' hi hd => ?_⟩
  · unfold updD
    by_cases e : i = o
    · subst e; rw [pk_us, if_pos rfl]; rfl
    · rw [pk_un e, if_neg e]; exact hin i hi
  · unfold updD at hd
    by_cases e : i = o
    · rw [if_pos e] at hd; cases hd; rw [e]; exact hkg
    · rw [if_neg e] at hd; exact hD i k' g' a' hi hd
theorem gI_add {D : Nat → zD} {o k : Nat} {d : Int64 × Int64 × Int64} (e : fD (updD D o (some d)) 60 = (fD D 60).take k ++ (o, d) :: (fD D 60).drop k) : gL (fD (updD D o (some d)) 60) = addG d.2.1 d.2.2 (gL (fD D 60)) := by
  rw [e, gL_mid, List.take_append_drop]
def vO (V : zVs) (f : Int32) (d : Int64) : Int64 := if f = -1 then d else (gV V f).1
def fOk (n : Nat) (f : Int32) : Prop := f = -1 ∨ ∃ j : Nat, j < n ∧ f = nI j
def rowD (S : zS) (kd f1 f2 f3 f4 : Int32) (G : List zNd) (o : Nat) : zD × Int64 :=
  if ¬ za S 1 o = 0 ∧ za S 2 o = kd then (if (evL S o G ([], 0)).1.any (·.2) = false ∧ ¬ vO (evL S o G ([], 0)).1 f1 1 = 0 then some (vO (evL S o G ([], 0)).1 f2 0, vO (evL S o G ([], 0)).1 f3 0, vO (evL S o G ([], 0)).1 f4 1) else none, (evL S o G ([], 0)).2) else (none, 0)

/-! find: the ROWS that are IN, by KEYS, then by OBJECTS -/
abbrev zRow : Type := Nat × Int64 × Int64 × Int64
def insS (x : zRow) : List zRow → List zRow
  | [] => [x]
  | y :: l => if x.2.1 < y.2.1 then x :: y :: l else y :: insS x l
def rowOf (S : zS) (e : Nat → Nat) (o : Nat) : zRow := (o, wCm S o e 1, wCm S o e 2, wCm S o e 3)
def sel (S : zS) (q : Nat) (e : Nat → Nat) (o : Nat) : Bool := decide (¬ za S 2 o = 0) && (decide (za S 3 o = za S 8 q) && wIn S o e)
def fl (S : zS) (q : Nat) (e : Nat → Nat) : Nat → List zRow
  | 0 => []
  | o + 1 => if sel S q e o then insS (rowOf S e o) (fl S q e o) else fl S q e o
theorem fl_no {S : zS} {q o : Nat} {e : Nat → Nat} (h : sel S q e o = false) : fl S q e (o + 1) = fl S q e o := by simp [fl, h]
theorem fl_yes {S : zS} {q o : Nat} {e : Nat → Nat} (h : sel S q e o = true) : fl S q e (o + 1) = insS (rowOf S e o) (fl S q e o) := by simp [fl, h]
theorem insS_len (x : zRow) : ∀ l : List zRow, (insS x l).length = l.length + 1
  | [] => rfl
  | y :: l => by
    simp only [insS]
    split
    · rfl
    · simp [insS_len x l]
theorem insS_mem (x : zRow) : ∀ (l : List zRow) (y : zRow), y ∈ insS x l ↔ y = x ∨ y ∈ l
  | [], y => by simp [insS]
  | z :: l, y => by
    simp only [insS]
    split
    · simp
    · rw [List.mem_cons, insS_mem x l y, List.mem_cons]
      constructor
      · rintro (h | h | h)
        · exact Or.inr (Or.inl h)
        · exact Or.inl h
        · exact Or.inr (Or.inr h)
      · rintro (h | h | h)
        · exact Or.inr (Or.inl h)
        · exact Or.inl h
        · exact Or.inr (Or.inr h)
theorem fl_len (S : zS) (q : Nat) (e : Nat → Nat) : ∀ o : Nat, (fl S q e o).length ≤ o
  | 0 => Nat.le_refl 0
  | o + 1 => by
    have := fl_len S q e o
    simp only [fl]
    split
    · rw [insS_len]; omega
    · omega
abbrev srt (l : List zRow) : Prop := l.Pairwise (fun a b => a.2.1 ≤ b.2.1)
theorem i64le {a b : Int64} (h : ¬ a < b) : b ≤ a := by
  rw [Int64.le_iff_toInt_le]
  rw [Int64.lt_iff_toInt_lt] at h
  omega
theorem insS_srt (x : zRow) : ∀ l : List zRow, srt l → srt (insS x l)
  | [], _ => by simp [insS, srt]
  | y :: l, h => by
    rw [srt, List.pairwise_cons] at h
    simp only [insS]
    split
    next hlt =>
      refine List.pairwise_cons.mpr ⟨fun z hz => ?_, List.pairwise_cons.mpr h⟩
      rcases List.mem_cons.mp hz with rfl | hz
      · rw [Int64.le_iff_toInt_le]; rw [Int64.lt_iff_toInt_lt] at hlt; omega
      · have := h.1 z hz
        rw [Int64.le_iff_toInt_le] at this ⊢; rw [Int64.lt_iff_toInt_lt] at hlt; omega
    next hge =>
      refine List.pairwise_cons.mpr ⟨fun z hz => ?_, insS_srt x l h.2⟩
      rcases (insS_mem x l z).mp hz with rfl | hz
      · exact i64le hge
      · exact h.1 z hz
theorem fl_srt (S : zS) (q : Nat) (e : Nat → Nat) : ∀ o : Nat, srt (fl S q e o)
  | 0 => List.Pairwise.nil
  | o + 1 => by
    simp only [fl]
    split
    · exact insS_srt _ _ (fl_srt S q e o)
    · exact fl_srt S q e o
theorem insS_split (x : zRow) : ∀ (l : List zRow) (k : Nat), (∀ i y, l[i]? = some y → i < k → y.2.1 ≤ x.2.1) → (∀ i y, l[i]? = some y → k ≤ i → x.2.1 < y.2.1) → k ≤ l.length → insS x l = l.take k ++ x :: l.drop k
  | [], k, _, _, hk => by
    have : k = 0 := by simpa using hk
    subst this; rfl
  | y :: l, 0, _, h2, _ => by
    have := h2 0 y rfl (Nat.zero_le _)
    simp [insS, this]
  | y :: l, k + 1, h1, h2, hk => by
    have := h1 0 y rfl (by omega)
    have hn : ¬ x.2.1 < y.2.1 := by
      rw [Int64.lt_iff_toInt_lt]; rw [Int64.le_iff_toInt_le] at this; omega
    simp only [insS, if_neg hn, List.take_succ_cons, List.drop_succ_cons, List.cons_append]
    rw [insS_split x l k (fun i z hz hi => h1 (i + 1) z (by simpa using hz) (by omega)) (fun i z hz hi => h2 (i + 1) z (by simpa using hz) (by omega)) (by simpa using hk)]
/-- a place of the four rows holds a ROW -/
def atR (row : Nat → Int32) (key grp sm : Nat → Int64) (i : Nat) (x : zRow) : Prop := row i = nI x.1 ∧ key i = x.2.1 ∧ grp i = x.2.2.1 ∧ sm i = x.2.2.2
def hoR (L : List zRow) (row : Nat → Int32) (key grp sm : Nat → Int64) : Prop := ∀ i x, L[i]? = some x → atR row key grp sm i x
def shR (L : List zRow) (k : Nat) (row : Nat → Int32) (key grp sm : Nat → Int64) : Prop := ∀ i x, L[i]? = some x → (i < k → atR row key grp sm i x) ∧ (k ≤ i → atR row key grp sm (i + 1) x)
theorem shR_0 {L : List zRow} {row : Nat → Int32} {key grp sm : Nat → Int64} (h : hoR L row key grp sm) : shR L L.length row key grp sm := fun i x hx => ⟨fun _ => h i x hx, fun q => absurd (List.getElem?_eq_some_iff.mp hx).1 (by omega)⟩
theorem atR_un {row : Nat → Int32} {key grp sm : Nat → Int64} {i j : Nat} {x : zRow} {a : Int32} {b c d : Int64} (h : atR row key grp sm i x) (hij : i ≠ j) : atR (upd row j a) (vp_updL key j b) (vp_updL grp j c) (vp_updL sm j d) i x := by
  unfold atR
  rw [pk_un hij, pk_uLn hij, pk_uLn hij, pk_uLn hij]
  exact h
theorem atR_us {row : Nat → Int32} {key grp sm : Nat → Int64} {j : Nat} {x : zRow} {a : Int32} {b c d : Int64} (h1 : a = nI x.1) (h2 : b = x.2.1) (h3 : c = x.2.2.1) (h4 : d = x.2.2.2) : atR (upd row j a) (vp_updL key j b) (vp_updL grp j c) (vp_updL sm j d) j x := by
  unfold atR
  rw [pk_us, pk_uLs, pk_uLs, pk_uLs]
  exact ⟨h1, h2, h3, h4⟩
theorem shR_s {L : List zRow} {k : Nat} {row : Nat → Int32} {key grp sm : Nat → Int64} (h : shR L (k + 1) row key grp sm) : shR L k (upd row (k + 1) (row k)) (vp_updL key (k + 1) (key k)) (vp_updL grp (k + 1) (grp k)) (vp_updL sm (k + 1) (sm k)) := by
  intro i x hx
  obtain ⟨h1, h2⟩ := h i x hx
  refine ⟨fun q => atR_un (h1 (by omega)) (by omega), fun q => ?_⟩
  by_cases e : i = k
  · subst e
    obtain ⟨a, b, c, d⟩ := h1 (by omega)
    exact atR_us a b c d
  · exact atR_un (h2 (by omega)) (by omega)
theorem shR_in {L : List zRow} {k : Nat} {row : Nat → Int32} {key grp sm : Nat → Int64} (h : shR L k row key grp sm) (hk : k ≤ L.length) (hs : srt L) (x : zRow) (h1 : ∀ j y, L[j]? = some y → j + 1 = k → y.2.1 ≤ x.2.1) (h2 : ∀ i y, L[i]? = some y → k ≤ i → x.2.1 < y.2.1) :
    hoR (insS x L) (upd row k (nI x.1)) (vp_updL key k x.2.1) (vp_updL grp k x.2.2.1) (vp_updL sm k x.2.2.2) := by
  have h1' : ∀ i y, L[i]? = some y → i < k → y.2.1 ≤ x.2.1 := by
    intro i y hy hi
    by_cases e : i + 1 = k
    · exact h1 i y hy e
    · obtain ⟨z, hz⟩ : ∃ z, L[k - 1]? = some z := ⟨L[k - 1]'(by omega), by simp [List.getElem?_eq_getElem (show k - 1 < L.length by omega)]⟩
      have a := h1 (k - 1) z hz (by omega)
      have hyl := (List.getElem?_eq_some_iff.mp hy)
      have hzl := (List.getElem?_eq_some_iff.mp hz)
      have b := List.pairwise_iff_getElem.mp hs i (k - 1) hyl.1 hzl.1 (by omega)
      rw [hyl.2, hzl.2] at b
      rw [Int64.le_iff_toInt_le] at a b ⊢
      omega
  rw [insS_split x L k h1' h2 hk]
  intro i y hy
  have hl : (L.take k).length = k := by simp; omega
  by_cases hi : i < k
  · rw [List.getElem?_append_left (by omega), List.getElem?_take_of_lt hi] at hy
    exact atR_un ((h i y hy).1 hi) (by omega)
  · rw [List.getElem?_append_right (by omega), hl] at hy
    by_cases e : i = k
    · subst e
      rw [Nat.sub_self] at hy
      cases hy
      exact atR_us rfl rfl rfl rfl
    · obtain ⟨j, hj⟩ : ∃ j, i = j + 1 := ⟨i - 1, by omega⟩
      subst hj
      have : j + 1 - k = (j - k) + 1 := by omega
      rw [this, List.getElem?_cons_succ, List.getElem?_drop] at hy
      rw [show k + (j - k) = j by omega] at hy
      exact atR_un ((h j y hy).2 (by omega)) (by omega)
def mfd (S : zS) (hh ab : Int32) (f : Nat → Int64) (hg : Nat → Int32) (md : Nat → Int64) (n : Int32) (row : Nat → Int32) (key grp sm : Nat → Int64) : zS := (fun i => if i = 5 then hh else if i = 6 then ab else if i = 7 then n else S.1 i, S.2.1, fun i => if i = 16 then hg else if i = 18 then row else S.2.2.1 i, fun i => if i = 15 then f else if i = 17 then md else if i = 19 then key else if i = 20 then grp else if i = 21 then sm else S.2.2.2 i)
theorem qok_of {S S' : zS} (h1 : cv S' = cv S) (h2 : za S' 10 = za S 10) {q : Nat} {e : Nat → Nat} (h : qok S q e) : qok S' q e := by
  obtain ⟨a, b, c, d, g, t⟩ := h
  refine ⟨a, b, c, fun f hf => by rw [h2]; exact d f hf, fun k k1 k2 => ?_, fun f hf => ?_⟩
  · have := g k k1 k2
    rw [show za S' 11 = za (cv S') 11 from rfl, show cOp S' k = cOp (cv S') k from rfl, h1]
    exact this
  · rw [tyr_cv, h1, ← tyr_cv]
    exact t f hf
theorem nI_le0 {k : Nat} (hk : k < 2 ^ 31) (h : nI k ≤ 0) : k = 0 := Nat.le_zero.mp (gI (b := 0) hk (by decide) h)
theorem nI_gt0 {k : Nat} (hk : k < 2 ^ 31) (h : ¬ nI k ≤ 0) : ∃ j, k = j + 1 := ⟨k - 1, by have := ngI (b := 0) hk (by decide) h; omega⟩
theorem i_m1 (k : Nat) : nI (k + 1) + Int32.ofInt (-1) = nI k := by
  rw [show Int32.ofInt (-1) = -1 from by decide]
  exact pk_m1 k

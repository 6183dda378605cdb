/-! GROUPS: a list of (how many, value, low, high), by values -/
def upG (s : Int64) (g : zRow) : zRow := (g.1 + 1, g.2.1, g.2.2.1 + s, g.2.2.2 + ((if 0 ≤ s then 0 else -1) + (if 0 ≤ (g.2.2.1 &&& s) ||| ((g.2.2.1 ||| s) &&& ((g.2.2.1 + s) ^^^ (-1))) then 0 else 1)))
def addG (v s : Int64) : List zRow → List zRow
  | [] => [upG s (0, v, 0, 0)]
  | g :: l => if g.2.1 < v then g :: addG v s l else if g.2.1 = v then upG s g :: l else upG s (0, v, 0, 0) :: g :: l
def gl (R : List zRow) (i : Nat) : List zRow := (R.take i).foldl (fun G x => addG x.2.2.1 x.2.2.2 G) []
def gL (R : List zRow) : List zRow := gl R R.length
theorem gl_s {R : List zRow} {i : Nat} {x : zRow} (h : R[i]? = some x) : gl R (i + 1) = addG x.2.2.1 x.2.2.2 (gl R i) := by
  unfold gl
  rw [List.take_succ, h]
  simp
theorem addG_len (v s : Int64) : ∀ l : List zRow, (addG v s l).length ≤ l.length + 1
  | [] => by simp [addG]
  | g :: l => by
    have := addG_len v s l
    simp only [addG]
    repeat' split
    all_goals simp only [List.length_cons]
    all_goals omega
theorem gl_len (R : List zRow) : ∀ i : Nat, (gl R i).length ≤ i
  | 0 => by simp [gl]
  | i + 1 => by
    have ih := gl_len R i
    cases h : R[i]? with
    | none =>
      have : gl R (i + 1) = gl R i := by unfold gl; rw [List.take_succ, h]; simp
      rw [this]; omega
    | some x =>
      rw [gl_s h]
      have := addG_len x.2.2.1 x.2.2.2 (gl R i)
      omega
theorem tk_at {L : List zRow} {k : Nat} (hk : k ≤ L.length) (x : zRow) : (L.take k ++ x :: L.drop k)[k]? = some x := by
  rw [List.getElem?_append_right (by simp; omega)]
  simp [Nat.min_eq_left hk]
theorem addG_open (v s : Int64) : ∀ (L : List zRow) (k : Nat), k ≤ L.length → (∀ j y, L[j]? = some y → j < k → y.2.1 < v) → (∀ y, L[k]? = some y → v < y.2.1) → addG v s L = (L.take k ++ (0, v, 0, 0) :: L.drop k).set k (upG s (0, v, 0, 0))
  | [], k, hk, _, _ => by
    have : k = 0 := by simpa using hk
    subst this; rfl
  | g :: l, 0, _, _, h2 => by
    have hv := h2 g rfl
    rw [Int64.lt_iff_toInt_lt] at hv
    have h1 : ¬ g.2.1 < v := by rw [Int64.lt_iff_toInt_lt]; omega
    have h3 : ¬ g.2.1 = v := fun q => by rw [q] at hv; omega
    simp [addG, h1, h3]
  | g :: l, k + 1, hk, h1, h2 => by
    have := h1 0 g rfl (by omega)
    simp only [addG, if_pos this, List.take_succ_cons, List.drop_succ_cons, List.cons_append, List.set_cons_succ]
    rw [addG_open v s l k (by simpa using hk) (fun j y hy hj => h1 (j + 1) y (by simpa using hy) (by omega)) (fun y hy => h2 y (by simpa using hy))]
theorem addG_eq (v s : Int64) : ∀ (L : List zRow) (k : Nat) (g : zRow), L[k]? = some g → g.2.1 = v → (∀ j y, L[j]? = some y → j < k → y.2.1 < v) → addG v s L = L.set k (upG s g)
  | [], k, g, h, _, _ => by simp at h
  | g' :: l, 0, g, h, hv, _ => by
    simp only [List.getElem?_cons_zero, Option.some.injEq] at h
    subst h
    have h1 : ¬ g'.2.1 < v := by rw [hv, Int64.lt_iff_toInt_lt]; omega
    simp [addG, h1, hv]
  | g' :: l, k + 1, g, h, hv, h1 => by
    have := h1 0 g' rfl (by omega)
    simp only [addG, if_pos this, List.set_cons_succ]
    rw [addG_eq v s l k g (by simpa using h) hv (fun j y hy hj => h1 (j + 1) y (by simpa using hy) (by omega))]
theorem hoG_set {L : List zRow} {k : Nat} {mn : Nat → Int32} {va lo hi : Nat → Int64} (h : hoR L mn va lo hi) {g : zRow} (hk : L[k]? = some g) (z : zRow) (hz : z.2.1 = g.2.1) : hoR (L.set k z) (upd mn k (nI z.1)) va (vp_updL lo k z.2.2.1) (vp_updL hi k z.2.2.2) := by
  intro i x hx
  by_cases e : i = k
  · subst e
    have hl := (List.getElem?_eq_some_iff.mp hk).1
    rw [List.getElem?_set_self hl] at hx
    cases hx
    unfold atR
    rw [pk_us, pk_uLs, pk_uLs]
    exact ⟨rfl, by rw [hz]; exact (h i g hk).2.1, rfl, rfl⟩
  · rw [List.getElem?_set_ne (Ne.symm e)] at hx
    obtain ⟨a, b, c, d⟩ := h i x hx
    unfold atR
    rw [pk_un e, pk_uLn e, pk_uLn e]
    exact ⟨a, b, c, d⟩
theorem shR_put {L : List zRow} {k : Nat} {row : Nat → Int32} {key grp sm : Nat → Int64} (h : shR L k row key grp sm) (hk : k ≤ L.length) (x : zRow) : hoR (L.take k ++ x :: L.drop k) (upd row k (nI x.1)) (vp_updL key k x.2.1) (vp_updL grp k x.2.2.1) (vp_updL sm k x.2.2.2) := by
  intro i y hy
  have hl : (L.take k).length = k := by simp; omega
  by_cases hi : i < k
  · rw [List.getElem?_append_left (by omega), List.getElem?_take_of_lt hi] at hy
    exact atR_un ((h i y hy).1 hi) (by omega)
  · rw [List.getElem?_append_right (by omega), hl] at hy
    by_cases e : i = k
    · subst e
      rw [Nat.sub_self] at hy
      cases hy
      exact atR_us rfl rfl rfl rfl
    · obtain ⟨j, hj⟩ : ∃ j, i = j + 1 := ⟨i - 1, by omega⟩
      subst hj
      have : j + 1 - k = (j - k) + 1 := by omega
      rw [this, List.getElem?_cons_succ, List.getElem?_drop] at hy
      rw [show k + (j - k) = j by omega] at hy
      exact atR_un ((h j y hy).2 (by omega)) (by omega)
def mgp (S : zS) (g : Int32) (va : Nat → Int64) (mn : Nat → Int32) (lo hi : Nat → Int64) : zS := (fun i => if i = 8 then g else S.1 i, S.2.1, fun i => if i = 23 then mn else S.2.2.1 i, fun i => if i = 22 then va else if i = 24 then lo else if i = 25 then hi else S.2.2.2 i)
def mfg (S : zS) (hh ab : Int32) (f : Nat → Int64) (hg : Nat → Int32) (md : Nat → Int64) (n : Int32) (row : Nat → Int32) (key grp sm : Nat → Int64) (g : Int32) (va : Nat → Int64) (mn : Nat → Int32) (lo hi : Nat → Int64) : zS := mgp (mfd S hh ab f hg md n row key grp sm) g va mn lo hi
theorem i64ltn {a b : Int64} (h : b ≤ a) (h2 : ¬ a = b) : b < a := by
  rw [Int64.lt_iff_toInt_lt]
  rw [Int64.le_iff_toInt_le] at h
  have : ¬ a.toInt = b.toInt := fun q => h2 (Int64.toInt_inj.mp q)
  omega
theorem i64lt {a b : Int64} (h : ¬ b ≤ a) : a < b := by
  rw [Int64.lt_iff_toInt_lt]
  rw [Int64.le_iff_toInt_le] at h
  omega

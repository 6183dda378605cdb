def wkw (E : zE) (r : Nat → Nat) (x_store : Nat) (S : zS) : va_W := [(r 0, .inr (6, [.ref x_store, .ref (r 1), .ref (r 2), .long (zl S 0), .int (zi S 0)])), (r 1, .inl (E.2 1, 80, .inr (.inl (zb S 1)))), (r 2, .inl (E.2 2, 80, .inl (za S 2)))]
/-! the Worker of the class: nodes worked out, one behind the other -/
abbrev zVs : Type := List (Int64 × Bool)
def note (h : Int64) (o : Nat) : Int64 := h ||| ((1 : Int64) <<< ((nI o).toInt64 &&& 63))
def rfO (S : zS) (o : Nat) : Option Nat := if za S 3 o = -1 then none else some (za S 3 o).toNatClampNeg
def wlk (S : zS) : Nat → Option Nat → Int64 → Option Nat × Int64
  | 0, o, h => (o, h)
  | _ + 1, none, h => (none, h)
  | k + 1, some o, h => wlk S k (rfO S o) (note h o)
theorem wlk_none (S : zS) (k : Nat) (h : Int64) : wlk S k none h = (none, h) := by cases k <;> rfl
def oI (o : Option Nat) : Int32 := match o with | none => -1 | some j => nI j
def fldV (S : zS) (c o : Nat) : Int64 := if c = 110 then (za S 4 o).toInt64 else if c = 105 then lN o else zb S 5 (3 * o + (c - 97))
def itmV (S : zS) (o : Nat) (v : Int64) : Int64 × Bool := if ¬ v < 0 ∧ ¬ (za S 4 o).toInt64 ≤ v then (zb S 6 (8 * o + v.toNatClampNeg), false) else (0, true)
def hldB (c : Nat) (x y : Int64) : Bool := if c = 61 then decide (x = y) else if c = 35 then decide (¬ x = y) else if c = 60 then decide (x < y) else if c = 62 then decide (y < x) else if c = 38 then decide (¬ x = 0 ∧ ¬ y = 0) else if c = 124 then decide (¬ x = 0 ∨ ¬ y = 0) else decide (x = 0)
def prV (c : Nat) (x y : Int64) : Int64 × Bool := if c = 43 then (x + y, false) else if c = 45 then (x - y, false) else if c = 42 then (x * y, false) else if c = 47 then (if y = 0 then (0, true) else (x / y, false)) else if c = 37 then (if y = 0 then (0, true) else (x - x / y * y, false)) else if c = 95 then (-x, false) else (if hldB c x y then 1 else 0, false)
abbrev isF (c : Nat) : Prop := c = 97 ∨ c = 98 ∨ c = 99 ∨ c = 105 ∨ c = 110
abbrev isP (c : Nat) : Prop := c = 37 ∨ c = 42 ∨ c = 43 ∨ c = 45 ∨ c = 47 ∨ c = 95 ∨ c = 61 ∨ c = 35 ∨ c = 60 ∨ c = 62 ∨ c = 38 ∨ c = 124 ∨ c = 33
def evF (S : zS) (c : Nat) (w : Option Nat × Int64) : (Int64 × Bool) × Int64 := match w with
  | (none, h) => ((0, true), h)
  | (some o, h) => ((fldV S c o, false), note h o)
def evT (S : zS) (y : Int64 × Bool) (w : Option Nat × Int64) : (Int64 × Bool) × Int64 := match w with
  | (none, h) => ((0, true), h)
  | (some o, h) => (if y.2 then (0, true) else itmV S o y.1, note h o)
def evP (c : Nat) (x y : Int64 × Bool) : Int64 × Bool := if x.2 ∨ y.2 then (0, true) else prV c x.1 y.1
def gV (V : zVs) (i : Int32) : Int64 × Bool := V.getD i.toNatClampNeg (0, true)
def evN (S : zS) (ro : Nat) (x : zNd) (s : zVs × Int64) : (Int64 × Bool) × Int64 :=
  if x.1 = 48 then ((x.2.1.toInt64, false), s.2)
  else if isF x.1 then evF S x.1 (wlk S x.2.1.toNatClampNeg (some ro) s.2)
  else if x.1 = 116 then evT S (gV s.1 x.2.2) (wlk S x.2.1.toNatClampNeg (some ro) s.2)
  else (evP x.1 (gV s.1 x.2.1) (gV s.1 x.2.2), s.2)
def evS (S : zS) (ro : Nat) (s : zVs × Int64) (x : zNd) : zVs × Int64 := (s.1 ++ [(evN S ro x s).1], (evN S ro x s).2)
def evL (S : zS) (ro : Nat) (G : List zNd) (s : zVs × Int64) : zVs × Int64 := G.foldl (evS S ro) s
theorem evL_app (S : zS) (ro : Nat) (G H : List zNd) (s : zVs × Int64) : evL S ro (G ++ H) s = evL S ro H (evL S ro G s) := List.foldl_append
theorem evL_len (S : zS) (ro : Nat) : ∀ (G : List zNd) (s : zVs × Int64), (evL S ro G s).1.length = s.1.length + G.length
  | [], s => by simp [evL]
  | x :: G, s => by
    show (evL S ro G (evS S ro s x)).1.length = _
    rw [evL_len S ro G]
    simp [evS]; omega
theorem evL_take (S : zS) (ro : Nat) {G : List zNd} {i : Nat} {x : zNd} (h : G[i]? = some x) (s : zVs × Int64) : evL S ro (G.take (i + 1)) s = evS S ro (evL S ro (G.take i) s) x := by
  rw [List.take_succ, h, evL_app]
  rfl
/-- a node as the Reader makes it -/
def nOk (i : Nat) (x : zNd) : Prop := (x.1 = 48) ∨ (isF x.1 ∧ ∃ k : Nat, k < 1000 ∧ x.2.1 = nI k) ∨ (x.1 = 116 ∧ ∃ k j : Nat, k < 1000 ∧ j < i ∧ x.2.1 = nI k ∧ x.2.2 = nI j) ∨ (isP x.1 ∧ ∃ a b : Nat, a < i ∧ b < i ∧ x.2.1 = nI a ∧ x.2.2 = nI b)
def hoV (V : zVs) (va : Nat → Int64) (ab : Nat → Int32) : Prop := ∀ i y, V[i]? = some y → va i = y.1 ∧ ab i = bI y.2
theorem hoV_at {V : zVs} {va : Nat → Int64} {ab : Nat → Int32} (h : hoV V va ab) {j : Nat} (hj : j < V.length) (hj2 : j < 2 ^ 31) : va j = (gV V (nI j)).1 ∧ ab j = bI (gV V (nI j)).2 := by
  unfold gV
  rw [nI_clamp hj2]
  have : V[j]? = some V[j] := List.getElem?_eq_getElem hj
  rw [List.getD_eq_getElem?_getD, this]
  exact h j _ this
theorem hoV_add {V : zVs} {va : Nat → Int64} {ab : Nat → Int32} (h : hoV V va ab) {i : Nat} (hi : i = V.length) {y : Int64 × Bool} {v : Int64} (hv : v = y.1) {ab' : Nat → Int32} (hab : ∀ k : Nat, k < i → ab' k = ab k) (hi2 : ab' i = bI y.2) : hoV (V ++ [y]) (vp_updL va i v) ab' := by
  subst hi
  intro k x hx
  by_cases hk : k < V.length
  · rw [List.getElem?_append_left hk] at hx
    rw [pk_uLn (by omega), hab k hk]
    exact h k x hx
  · rw [List.getElem?_append_right (by omega)] at hx
    have h1 : k - V.length < 1 := (List.getElem?_eq_some_iff.mp hx).1
    have h2 : k = V.length := by omega
    subst h2
    rw [Nat.sub_self] at hx
    cases hx
    rw [pk_uLs]
    exact ⟨hv, hi2⟩
theorem any_add (V : zVs) (y : Int64 × Bool) : (V ++ [y]).any (·.2) = (V.any (·.2) || y.2) := by simp [List.any_append]
/-- the Store holds together -/
def stOk (S : zS) (m : Nat) : Prop := m ≤ 60 ∧ zi S 0 = nI m ∧ (∀ o : Nat, o < m → ¬ za S 1 o = 0 → za S 3 o = -1 ∨ ∃ j : Nat, j < m ∧ ¬ za S 1 j = 0 ∧ za S 3 o = nI j) ∧ ∀ o : Nat, o < m → ∃ n : Nat, n ≤ 8 ∧ za S 4 o = nI n
def oOk (S : zS) (m : Nat) (o : Option Nat) : Prop := ∀ j : Nat, o = some j → j < m ∧ ¬ za S 1 j = 0
theorem oOk_s {S : zS} {m j : Nat} (h : oOk S m (some j)) : j < m ∧ ¬ za S 1 j = 0 := h j rfl
theorem oOk_i {S : zS} {m j : Nat} (h : j < m) (h2 : ¬ za S 1 j = 0) : oOk S m (some j) := fun i hi => by cases hi; exact ⟨h, h2⟩
theorem rfO_ok {S : zS} {m j : Nat} (h : stOk S m) (hj : j < m) (ht : ¬ za S 1 j = 0) : oOk S m (rfO S j) ∧ oI (rfO S j) = za S 3 j := by
  unfold rfO
  rcases h.2.2.1 j hj ht with e | ⟨i, hi, hti, e⟩
  · rw [if_pos e]; exact ⟨fun i hi => (by cases hi), e.symm⟩
  · have hm := h.1
    have hn : ¬ za S 3 j = -1 := by rw [e]; exact nI_nm (by omega)
    rw [if_neg hn, e, nI_clamp (by omega)]
    exact ⟨oOk_i hi hti, rfl⟩
theorem wlk_ok {S : zS} {m : Nat} (h : stOk S m) : ∀ (k : Nat) (o : Option Nat) (b : Int64), oOk S m o → oOk S m (wlk S k o b).1
  | 0, _, _, ho => ho
  | _ + 1, none, _, _ => fun j hj => by cases hj
  | k + 1, some o, b, ho => wlk_ok h k _ _ (rfO_ok h (oOk_s ho).1 (oOk_s ho).2).1
def mwv (S : zS) (h : Int64) (ab : Int32) (va : Nat → Int64) (an : Nat → Int32) : zS := (fun i => if i = 0 then ab else S.1 i, fun i => if i = 0 then h else S.2.1 i, fun i => if i = 2 then an else S.2.2.1 i, fun i => if i = 1 then va else S.2.2.2 i)
theorem isN_t {j : Nat} (h : j < 80) : decide (¬ nI j < 0 ∧ ¬ 80 ≤ nI j) = true := decide_eq_true ⟨nI_pos (by omega), fun q => absurd (gI (a := 80) (by decide) (by omega) q) (by omega)⟩
theorem isN_f : decide (¬ (-1 : Int32) < 0 ∧ ¬ 80 ≤ (-1 : Int32)) = false := by decide
theorem has_q {S : zS} {m o : Nat} (h : stOk S m) (ho : o < m) {v : Int64} (h1 : ¬ v < 0) (h2 : ¬ (za S 4 o).toInt64 ≤ v) : ∃ q : Nat, q < 8 ∧ v = lN q ∧ v.toInt32 = nI q ∧ (nI q).toInt64 = v := by
  obtain ⟨nn, hnn, hln⟩ := h.2.2.2 o ho
  obtain ⟨q, hq, hqe⟩ := pk_lOf h1
  have hq8 : q < 8 := by
    rw [hqe, hln, nI_l (by omega)] at h2
    rcases Nat.lt_or_ge q 8 with z | z
    · exact z
    · exact absurd ((pk_lLE (by omega) hq).mpr (by omega)) h2
  exact ⟨q, hq8, hqe, by rw [hqe]; exact lN_i q, by rw [hqe]; exact nI_l (by omega)⟩

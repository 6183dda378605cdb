/-! a group's sum goes down -/
def dnG (s : Int64) (y : zRow) : zRow := (y.1 - 1, y.2.1, y.2.2.1 - s, y.2.2.2 - ((if 0 ≤ s then 0 else -1) + (if ltU y.2.2.1 s = true then 1 else 0)))
def subG (k : Nat) (s : Int64) (y : zRow) (L : List zRow) : List zRow := if y.1 = 1 then L.eraseIdx k else L.set k (dnG s y)
def srG (L : List zRow) : Prop := ∀ (i j : Nat) (a b : zRow), i < j → L[i]? = some a → L[j]? = some b → a.2.1 < b.2.1
theorem dnG_t {s : Int64} {y : zRow} {c : Nat} (hc : y.1 = c + 1) (h : ltU y.2.2.1 s = true) : dnG s y = (c, y.2.1, y.2.2.1 - s, y.2.2.2 - ((if 0 ≤ s then 0 else -1) + (1 : Int32).toInt64)) := by
  unfold dnG
  rw [hc, if_pos h]
  rfl
theorem dnG_f {s : Int64} {y : zRow} {c : Nat} (hc : y.1 = c + 1) (h : ltU y.2.2.1 s = false) : dnG s y = (c, y.2.1, y.2.2.1 - s, y.2.2.2 - ((if 0 ≤ s then 0 else -1) + (0 : Int32).toInt64)) := by
  unfold dnG
  have h' : ¬ ltU y.2.2.1 s = true := by rw [h]; decide
  rw [hc, if_neg h']
  rfl
theorem plU {L : List zRow} {v : Int64} {k k' : Nat} {y : zRow} (hs : srG L) (hy : L[k]? = some y) (hv : y.2.1 = v) (h1 : k' ≤ L.length) (h2 : ∀ j y, L[j]? = some y → j < k' → y.2.1 < v) (h3 : ∀ y, L[k']? = some y → v ≤ y.2.1) : k' = k := by
  rcases Nat.lt_trichotomy k' k with h | h | h
  · have hl := (List.getElem?_eq_some_iff.mp hy).1
    have hy' : L[k']? = some L[k'] := List.getElem?_eq_getElem (by omega)
    have a := h3 _ hy'
    have b := hs k' k _ _ h hy' hy
    rw [hv] at b
    rw [Int64.le_iff_toInt_le] at a
    rw [Int64.lt_iff_toInt_lt] at b
    omega
  · exact h
  · have a := h2 k y hy h
    rw [hv, Int64.lt_iff_toInt_lt] at a
    omega

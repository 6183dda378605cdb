/-! a group that is closed; unsigned comparison -/
def dnR (L : List zRow) (k i : Nat) (row : Nat → Int32) (key grp sm : Nat → Int64) : Prop := ∀ j x, L[j]? = some x → (j < k → atR row key grp sm j x) ∧ (∀ j', j = j' + 1 → k ≤ j' → j' < i → atR row key grp sm j' x) ∧ (i < j → atR row key grp sm j x)
theorem dnR_0 {L : List zRow} {k : Nat} {row : Nat → Int32} {key grp sm : Nat → Int64} (h : hoR L row key grp sm) : dnR L k k row key grp sm := fun j x hx => ⟨fun _ => h j x hx, fun j' _ h1 h2 => absurd h2 (by omega), fun _ => h j x hx⟩
theorem dnR_s {L : List zRow} {k i : Nat} {row : Nat → Int32} {key grp sm : Nat → Int64} (h : dnR L k i row key grp sm) (hk : k ≤ i) : dnR L k (i + 1) (upd row i (row (i + 1))) (vp_updL key i (key (i + 1))) (vp_updL grp i (grp (i + 1))) (vp_updL sm i (sm (i + 1))) := by
  intro j x hx
  obtain ⟨h1, h2, h3⟩ := h j x hx
  refine ⟨fun q => atR_un (h1 q) (by omega), fun j' e q1 q2 => ?_, fun q => atR_un (h3 (by omega)) (by omega)⟩
  by_cases e2 : j' = i
  · subst e2; subst e
    obtain ⟨a, b, c, d⟩ := h3 (by omega)
    exact atR_us a b c d
  · exact atR_un (h2 j' e q1 (by omega)) e2
theorem dnR_e {L : List zRow} {k i : Nat} {row : Nat → Int32} {key grp sm : Nat → Int64} (h : dnR L k i row key grp sm) (hi : i + 1 = L.length) : hoR (L.eraseIdx k) row key grp sm := by
  intro j x hx
  rw [List.getElem?_eraseIdx] at hx
  split at hx
  · exact (h j x hx).1 (by assumption)
  · have hl := (List.getElem?_eq_some_iff.mp hx).1
    exact (h (j + 1) x hx).2.1 j rfl (by omega) (by omega)
def ltU (x y : Int64) : Bool := decide (x.toBitVec.toNat < y.toBitVec.toNat)
theorem xorS {c : BitVec 64} (h : c &&& 9223372036854775808#64 = 0#64) : (c ^^^ 9223372036854775808#64).toNat = c.toNat + 9223372036854775808 := by
  have e : c ^^^ 9223372036854775808#64 = c ||| 9223372036854775808#64 := by
    apply BitVec.eq_of_getLsbD_eq
    intro i hi
    have := congrArg (fun z => z.getLsbD i) h
    simp only [BitVec.getLsbD_and, BitVec.getLsbD_zero] at this
    rw [BitVec.getLsbD_xor, BitVec.getLsbD_or]
    revert this
    cases c.getLsbD i <;> cases (9223372036854775808#64).getLsbD i <;> simp
  rw [e, ← BitVec.add_eq_or_of_and_eq_zero c 9223372036854775808#64 h, BitVec.toNat_add]
  have hc : c.toNat < 9223372036854775808 := by
    have hm : c.msb = false := by
      have := congrArg (fun z => z.getLsbD 63) h
      simp only [BitVec.getLsbD_and, BitVec.getLsbD_zero] at this
      rw [show (9223372036854775808#64).getLsbD 63 = true by decide, Bool.and_true] at this
      rw [BitVec.msb_eq_getLsbD_last]; exact this
    have := BitVec.msb_eq_false_iff_two_mul_lt.mp hm
    omega
  show (c.toNat + 9223372036854775808) % 18446744073709551616 = _
  omega
theorem xorI (b : BitVec 64) : (b ^^^ 9223372036854775808#64).toInt = (b.toNat : Int) - 9223372036854775808 := by
  have hlt := b.isLt
  cases hm : b.msb with
  | false =>
    have h0 : b &&& 9223372036854775808#64 = 0#64 := by
      apply BitVec.eq_of_getLsbD_eq
      intro i hi
      have : ∀ j : Fin 64, (9223372036854775808#64).getLsbD j.val = decide (j.val = 63) := by decide
      rw [BitVec.getLsbD_and, this ⟨i, hi⟩, BitVec.getLsbD_zero]
      by_cases e : i = 63
      · subst e; rw [BitVec.msb_eq_getLsbD_last] at hm; simpa using hm
      · simp [e]
    have h2 := BitVec.msb_eq_false_iff_two_mul_lt.mp hm
    rw [BitVec.toInt_eq_toNat_cond, xorS h0]
    rw [if_neg (by omega)]
    omega
  | true =>
    have h0 : (b ^^^ 9223372036854775808#64) &&& 9223372036854775808#64 = 0#64 := by
      apply BitVec.eq_of_getLsbD_eq
      intro i hi
      have : ∀ j : Fin 64, (9223372036854775808#64).getLsbD j.val = decide (j.val = 63) := by decide
      rw [BitVec.getLsbD_and, BitVec.getLsbD_xor, this ⟨i, hi⟩, BitVec.getLsbD_zero]
      by_cases e : i = 63
      · subst e; rw [BitVec.msb_eq_getLsbD_last] at hm; simpa using hm
      · simp [e]
    have h3 := xorS h0
    rw [BitVec.xor_assoc, BitVec.xor_self, BitVec.xor_zero] at h3
    rw [BitVec.toInt_eq_toNat_cond, if_pos (by omega)]
    omega
theorem xs_lt (x y : Int64) : (x ^^^ (-9223372036854775808) < y ^^^ (-9223372036854775808)) ↔ x.toBitVec.toNat < y.toBitVec.toNat := by
  rw [Int64.lt_iff_toInt_lt]
  show (x.toBitVec ^^^ 9223372036854775808#64).toInt < (y.toBitVec ^^^ 9223372036854775808#64).toInt ↔ _
  rw [xorI, xorI]
  omega
theorem xs_le (x y : Int64) : (y ^^^ (-9223372036854775808) ≤ x ^^^ (-9223372036854775808)) ↔ y.toBitVec.toNat ≤ x.toBitVec.toNat := by
  rw [Int64.le_iff_toInt_le]
  show (y.toBitVec ^^^ 9223372036854775808#64).toInt ≤ (x.toBitVec ^^^ 9223372036854775808#64).toInt ↔ _
  rw [xorI, xorI]
  omega
theorem ltU_f {x y : Int64} (h : y ^^^ (-9223372036854775808) ≤ x ^^^ (-9223372036854775808)) : ltU x y = false := decide_eq_false (by have := (xs_le x y).mp h; omega)
theorem ltU_t {x y : Int64} (h : ¬ y ^^^ (-9223372036854775808) ≤ x ^^^ (-9223372036854775808)) : ltU x y = true := decide_eq_true (by have := mt (xs_le x y).mpr h; omega)

/-! the reader's small steps -/
def mps (S : zS) (at_ ac op : Int32) (cd nm : Nat → Int32) : zS := (fun i => if i = 9 then at_ else if i = 10 then ac else if i = 11 then op else S.1 i, S.2.1, fun i => if i = 11 then cd else if i = 12 then nm else S.2.2.1 i, S.2.2.2)
theorem ix240 (q a : Nat) : nI 240 * nI q + nI a = nI (240 * q + a) := by rw [pk_mul, nI_add]
theorem dgs_stop {sx : Nat → Nat} {p : Nat} (h : isD (sx p) = false) : ∀ (k v : Nat), dgs sx k p v = (p, v)
  | 0, _ => rfl
  | k + 1, v => by simp [dgs, h]
theorem dgs_go {sx : Nat → Nat} {p k v : Nat} (h : isD (sx p) = true) (hk : k < 9) : dgs sx (9 - k) p v = dgs sx (9 - (k + 1)) (p + 1) (10 * v + sx p - 48) := by
  rw [show 9 - k = (9 - (k + 1)) + 1 by omega]
  simp [dgs, h]
theorem num10 {v c : Nat} (h : 48 ≤ c) : 10 * nI v + nI c - 48 = nI (10 * v + c - 48) := by
  rw [show (10 : Int32) = nI 10 from rfl, pk_mul, nI_add, show (48 : Int32) = nI 48 from rfl, pk_sub (by omega)]
theorem isD_t {c : Nat} (h : isD c = true) : 48 ≤ c ∧ c ≤ 57 := of_decide_eq_true h
theorem nIe {a b : Nat} (ha : a < 2 ^ 31) (hb : b < 2 ^ 31) (h : nI a = nI b) : a = b := (nI_eq ha hb).mp h
theorem bI_n (b : Bool) : b = false → bI (!b) = 1 := fun h => by rw [h]; rfl
theorem bI_n' (b : Bool) : b = true → bI (!b) = 0 := fun h => by rw [h]; rfl

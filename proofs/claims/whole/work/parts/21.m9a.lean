/-! CHANGES: what stays, what comes -/
def zBw (S : zS) (k : Nat) (f : Nat → Int64) : zS := (S.1, S.2.1, S.2.2.1, fun i => if i = k then f else S.2.2.2 i)
theorem thB_1 {m j : Nat} {th : Nat → Int32} (hm : m < 2 ^ 31) (hj : j < m) (h : ¬ th j = 0) : bI (thB m th (nI j)) = 1 := by
  rw [thB_nI hm hj]
  simp [bI, h]
theorem tyr_11 {S S' : zS} (h : za S' 11 = za S 11) : ∀ (n a : Nat) (t : List Bool), tyr S' a n t = tyr S a n t
  | 0, _, _ => rfl
  | n + 1, a, t => by
    simp only [tyr]
    rw [show cOp S' a = cOp S a by unfold cOp; rw [h]]
    cases wt (cOp S a) t with
    | none => rfl
    | some t' => exact tyr_11 h n (a + 1) t'
theorem qok_11 {S S' : zS} (h1 : za S' 11 = za S 11) (h2 : za S' 10 = za S 10) {q : Nat} {e : Nat → Nat} (h : qok S q e) : qok S' q e := by
  obtain ⟨a, b, c, d, g, t⟩ := h
  refine ⟨a, b, c, fun f hf => by rw [h2]; exact d f hf, fun k k1 k2 => ?_, fun f hf => ?_⟩
  · unfold cOp; rw [h1]; exact g k k1 k2
  · rw [tyr_11 h1]; exact t f hf
theorem QS_of {S S' : zS} (h1 : za S' 11 = za S 11) (h2 : za S' 10 = za S 10) (h3 : za S' 9 = za S 9) (h4 : zi S' 3 = zi S 3) {nq : Nat} {eq : Nat → Nat → Nat} {cq : Nat → Nat} (h : QS S nq eq cq) : QS S' nq eq cq :=
  ⟨h.1, by rw [h4]; exact h.2.1, fun q hq => ⟨qok_11 h1 h2 (h.2.2 q hq).1, by rw [h3]; exact (h.2.2 q hq).2.1, (h.2.2 q hq).2.2⟩⟩
theorem ix3b {o p : Nat} : 3 * nI o + nI p = nI (3 * o + p) := by
  rw [show (3 : Int32) = nI 3 from rfl, pk_mul, nI_add]
theorem bwN {p n : Nat} (h : p ≤ n) (hn : n < 2 ^ 31) : bI (decide (0 ≤ nI p ∧ nI p ≤ nI n)) = 1 := bw1 (nI_pos' (by omega)) (nI_le h hn)
theorem objOk_ref {S : zS} (ho : objOk S) {o : Nat} {v : Int32} (hv : v = -1 ∨ ∃ i : Nat, i < 60 ∧ v = nI i) : objOk (zA S 5 o v) := by
  refine ⟨fun j hj => ?_, ho.2⟩
  show upd (za S 5) o v j = -1 ∨ ∃ i : Nat, i < 60 ∧ upd (za S 5) o v j = nI i
  by_cases e : j = o
  · subst e; rw [pk_us]; exact hv
  · rw [pk_un e]; exact ho.1 j hj
theorem objOk_len {S : zS} (ho : objOk S) {o n : Nat} (hn : n ≤ 8) : objOk (zA S 6 o (nI n)) := by
  refine ⟨ho.1, fun j hj => ?_⟩
  show ∃ k : Nat, k ≤ 8 ∧ upd (za S 6) o (nI n) j = nI k
  by_cases e : j = o
  · subst e; rw [pk_us]; exact ⟨n, hn, rfl⟩
  · rw [pk_un e]; exact ho.2 j hj
def clrP (pl : Nat → Int64) (o n i : Nat) : Nat → Int64 := fun j => if 8 * o + n ≤ j ∧ j < 8 * o + i then 0 else pl j
theorem clrP_0 (pl : Nat → Int64) (o n : Nat) : clrP pl o n n = pl := by
  funext j
  unfold clrP
  rw [if_neg (by omega)]
theorem clrP_s (pl : Nat → Int64) {o n i : Nat} (h : n ≤ i) : vp_updL (clrP pl o n i) (8 * o + i) 0 = clrP pl o n (i + 1) := by
  funext j
  by_cases e : j = 8 * o + i
  · subst e
    rw [pk_uLs]
    unfold clrP
    rw [if_pos (by omega)]
  · rw [pk_uLn e]
    unfold clrP
    by_cases q : 8 * o + n ≤ j ∧ j < 8 * o + i
    · rw [if_pos q, if_pos (by omega)]
    · rw [if_neg q, if_neg (by omega)]
theorem ix8b {o p : Nat} : 8 * nI o + nI p = nI (8 * o + p) := ix8

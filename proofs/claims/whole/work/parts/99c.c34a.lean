/-! differences as lists -/
def bts (f : Nat → Bool) : Nat → List Nat
  | 0 => []
  | n + 1 => bts f n ++ (if f n = true then [n] else [])
theorem bts_len (f : Nat → Bool) : ∀ n : Nat, (bts f n).length = ctB f n
  | 0 => rfl
  | n + 1 => by
    simp only [bts, ctB, List.length_append, bts_len f n]
    cases f n <;> rfl
theorem bts_ext {f g : Nat → Bool} : ∀ {n : Nat}, (∀ i : Nat, i < n → f i = g i) → bts f n = bts g n
  | 0, _ => rfl
  | n + 1, h => by
    simp only [bts]
    rw [bts_ext (fun i hi => h i (by omega)), h n (by omega)]
theorem bts_lt (f : Nat → Bool) : ∀ (n x : Nat), x ∈ bts f n → x < n
  | 0, x, h => absurd h (by simp [bts])
  | n + 1, x, h => by
    simp only [bts] at h
    rcases List.mem_append.mp h with q | q
    · have := bts_lt f n x q; omega
    · split at q
      · have : x = n := by simpa using q
        omega
      · simp at q
/-- the bits from the i-th on -/
def btr (f : Nat → Bool) : Nat → Nat → List Nat
  | 0, _ => []
  | n + 1, i => (if f i = true then [i] else []) ++ btr f n (i + 1)
theorem btr_bts (f : Nat → Bool) : ∀ (n i : Nat), bts f i ++ btr f n i = bts f (i + n)
  | 0, i => by simp [btr]
  | n + 1, i => by
    have := btr_bts f n (i + 1)
    simp only [bts] at this
    simp only [btr]
    rw [← List.append_assoc, this]
    congr 1; omega
theorem btA_at (f : Nat → Bool) : ∀ (n i k : Nat), btA f k n i = (btr f n i)[k]?
  | 0, i, k => by simp [btA, btr]
  | n + 1, i, k => by
    simp only [btA, btr]
    cases h : f i with
    | true =>
      rw [if_pos rfl, if_pos rfl]
      cases k with
      | zero => rw [if_pos rfl]; rfl
      | succ k =>
        rw [if_neg (by omega), btA_at f n (i + 1)]
        simp
    | false =>
      rw [if_neg (by decide), if_neg (by decide), btA_at f n (i + 1)]
      simp
theorem btA_0 (f : Nat → Bool) (n k : Nat) : btA f k n 0 = (bts f n)[k]? := by
  rw [btA_at]
  have := btr_bts f n 0
  rw [show bts f 0 = [] from rfl, List.nil_append, Nat.zero_add] at this
  rw [this]
theorem tlL_bts (nB sB : Nat → Bool) (q : Nat) (cm : Bool) : ∀ n : Nat, tlL nB sB q cm n = (bts (fun o => decide (nB o = cm ∧ ¬ sB o = cm)) n).map (fun o => (q, o, cm))
  | 0 => rfl
  | n + 1 => by
    simp only [tlL, bts, List.map_append]
    rw [tlL_bts nB sB q cm n]
    congr 1
    by_cases h : nB n = cm ∧ ¬ sB n = cm
    · rw [if_pos h, if_pos (decide_eq_true h)]; rfl
    · rw [if_neg h, if_neg (by rw [decide_eq_false h]; decide)]; rfl
/-- no bits beyond the OBJECTS -/
def b60 (x : Int64) : Prop := ∀ u : Nat, 60 ≤ u → u < 64 → (uN x).testBit u = false
def dq (S : zS) (q : Nat) : List (Nat × Nat × Bool) := (bts (bitL (zl S 1)) 60).map (fun o => (q, o, false)) ++ (bts (bitL (zl S 2)) 60).map (fun o => (q, o, true))
theorem ct60 {x : Int64} (h : b60 x) : ctB (uN x).testBit 64 = (bts (bitL x) 60).length := by
  rw [bts_len, show (64 : Nat) = 60 + 4 from rfl, ctB_add, ctB_ext (g := bitL x) (fun i hi => (bitL_t (by omega)).symm)]
  have : ctB (fun i => (uN x).testBit (60 + i)) 4 = 0 := by
    rw [ctB_ext (g := fun _ => false) (fun i hi => h (60 + i) (by omega) (by omega))]; rfl
  omega
theorem ctS_dq {S : zS} (h1 : b60 (zl S 1)) (h2 : b60 (zl S 2)) (q : Nat) : ctS S = (dq S q).length := by
  unfold ctS dq
  rw [ct60 h1, ct60 h2, List.length_append, List.length_map, List.length_map]
def tlX (x : Nat × Nat × Bool) (w : Int32) : Int32 := if w = 0 then nI x.1 else if w = 1 then nI x.2.1 else if w = 2 then bI x.2.2 else -1
theorem tlV_dq {S : zS} (h1 : b60 (zl S 1)) {q j : Nat} {w : Int32} {x : Nat × Nat × Bool} (hx : (dq S q)[j]? = some x) : tlV S q j w = tlX x w := by
  unfold dq at hx
  unfold tlV tlX dfO
  rw [ct60 h1]
  by_cases h : (bts (bitL (zl S 1)) 60).length ≤ j
  · rw [List.getElem?_append_right (by simpa using h), List.length_map, List.getElem?_map] at hx
    rw [if_pos h, decide_eq_true h, btA_0]
    cases e : (bts (bitL (zl S 2)) 60)[j - (bts (bitL (zl S 1)) 60).length]? with
    | none => rw [e] at hx; cases hx
    | some o => rw [e] at hx; cases hx; rfl
  · rw [List.getElem?_append_left (by rw [List.length_map]; omega), List.getElem?_map] at hx
    rw [if_neg h, decide_eq_false h, btA_0]
    cases e : (bts (bitL (zl S 1)) 60)[j]? with
    | none => rw [e] at hx; cases hx
    | some o => rw [e] at hx; cases hx; rfl
def dLs (SK : Nat → zS) : Nat → List (Nat × Nat × Bool)
  | 0 => []
  | q + 1 => dLs SK q ++ dq (SK q) q
theorem dfN_dLs {SK : Nat → zS} : ∀ {nq : Nat}, (∀ q : Nat, q < nq → b60 (zl (SK q) 1) ∧ b60 (zl (SK q) 2)) → dfN SK nq = (dLs SK nq).length
  | 0, _ => rfl
  | nq + 1, h => by
    simp only [dfN, dLs, List.length_append]
    rw [dfN_dLs (fun q hq => h q (by omega)), ctS_dq (h nq (by omega)).1 (h nq (by omega)).2 nq]
/-- from the q-th QUERY on -/
def dLr (SK : Nat → zS) : Nat → Nat → List (Nat × Nat × Bool)
  | 0, _ => []
  | n + 1, q => dq (SK q) q ++ dLr SK n (q + 1)
theorem dLr_dLs (SK : Nat → zS) : ∀ (n q : Nat), dLs SK q ++ dLr SK n q = dLs SK (q + n)
  | 0, q => by simp [dLr]
  | n + 1, q => by
    have := dLr_dLs SK n (q + 1)
    simp only [dLs] at this
    simp only [dLr]
    rw [← List.append_assoc, this]
    congr 1; omega
theorem dfA_at {SK : Nat → zS} {w : Int32} : ∀ (n q j : Nat), (∀ i : Nat, i < q + n → b60 (zl (SK i) 1) ∧ b60 (zl (SK i) 2)) → (match dfA SK n q j with
    | none => (-1 : Int32)
    | some (q, j) => tlV (SK q) q j w) = (match (dLr SK n q)[j]? with
    | none => -1
    | some x => tlX x w)
  | 0, q, j, _ => by simp [dfA, dLr]
  | n + 1, q, j, h => by
    have hb := h q (by omega)
    simp only [dfA, dLr]
    rw [ctS_dq hb.1 hb.2 q]
    by_cases hj : j < (dq (SK q) q).length
    · rw [if_pos hj, List.getElem?_append_left hj]
      obtain ⟨x, hx⟩ : ∃ x, (dq (SK q) q)[j]? = some x := ⟨_, List.getElem?_eq_getElem hj⟩
      rw [hx]
      exact tlV_dq hb.1 hx
    · rw [if_neg hj, List.getElem?_append_right (by omega)]
      exact dfA_at n (q + 1) (j - (dq (SK q) q).length) (fun i hi => h i (by omega))
theorem differ_eq {SK : Nat → zS} {nq k : Nat} {w : Int32} (h : ∀ q : Nat, q < nq → b60 (zl (SK q) 1) ∧ b60 (zl (SK q) 2)) : dfR_ SK nq k w = (match (dLs SK nq)[k]? with
    | none => -1
    | some x => tlX x w) := by
  unfold dfR_
  have := dfA_at (SK := SK) (w := w) nq 0 k (fun i hi => h i (by omega))
  have e := dLr_dLs SK nq 0
  rw [show dLs SK 0 = [] from rfl, List.nil_append, Nat.zero_add] at e
  rw [e] at this
  exact this
/-- the first rows, a bit each -/
theorem mskL_bit : ∀ (l : List Nat) (b : Int64) (u : Nat), u < 64 → (∀ x ∈ l, x < 60) → bitL (l.foldl note b) u = (bitL b u || l.any (fun x => x == u))
  | [], b, u, _, _ => by simp
  | x :: l, b, u, hu, h => by
    rw [List.foldl_cons, mskL_bit l (note b x) u hu (fun y hy => h y (List.mem_cons_of_mem _ hy)), note_t (by have := h x List.mem_cons_self; omega) hu, List.any_cons, Bool.or_assoc]
    congr 1
theorem shM_bit (D : Nat → zD) (lm : Nat) {u : Nat} (hu : u < 64) : bitL (shM D lm) u = isSh (fD D 60) (shN lm (fD D 60).length) u := by
  unfold shM mskL
  rw [mskL_bit _ _ _ hu, bit0 hu, Bool.false_or]
  · unfold isSh oD
    have e : shwN lm ((fD D 60).map (·.1)).length = shN lm (fD D 60).length := by
      rw [List.length_map]
      unfold shwN shN
      by_cases h : lm = 0
      · rw [if_pos h, if_pos (Or.inl h)]
      · rw [if_neg h]
        by_cases h2 : (fD D 60).length < lm
        · rw [if_pos h2, if_pos (Or.inr h2)]
        · rw [if_neg h2, if_neg (by omega)]
    rw [e, ← List.map_take, List.any_map]
    rfl
  · intro x hx
    have h1 := List.mem_of_mem_take hx
    obtain ⟨i, hi⟩ := List.getElem?_of_mem h1
    exact (oD_lt D i x hi).1
theorem shM_60 (D : Nat → zD) (lm : Nat) {u : Nat} (h1 : 60 ≤ u) (hu : u < 64) : bitL (shM D lm) u = false := by
  rw [shM_bit D lm hu]
  unfold isSh
  refine List.any_eq_false.mpr (fun x hx => ?_)
  have := ((fD_mem D 60 x).mp (List.mem_of_mem_take hx)).1
  simp; omega
theorem bit_an {x y : Int64} {u : Nat} (hu : u < 64) : bitL (x &&& (y ^^^ (-1))) u = (bitL x u && !bitL y u) := by
  rw [bitL_t hu, bitL_t hu, bitL_t hu]
  have e : uN (x &&& (y ^^^ (-1))) = uN x &&& (uN y ^^^ uN (-1 : Int64)) := by
    show (x.toBitVec &&& (y.toBitVec ^^^ (-1 : Int64).toBitVec)).toNat = _
    rw [BitVec.toNat_and, BitVec.toNat_xor]
  rw [e, Nat.testBit_and, Nat.testBit_xor]
  have : (uN (-1 : Int64)).testBit u = true := by
    have : ∀ v : Fin 64, (uN (-1 : Int64)).testBit v.val = true := by decide +kernel
    exact this ⟨u, hu⟩
  rw [this, Bool.xor_true]
theorem b60_an {x y : Int64} (h : ∀ u : Nat, 60 ≤ u → u < 64 → bitL x u = false) : b60 (x &&& (y ^^^ (-1))) := fun u h1 h2 => by
  rw [← bitL_t h2, bit_an h2, h u h1 h2]; rfl
theorem b60_0 : b60 0 := fun u _ h2 => by rw [← bitL_t h2, bit0 h2]
/-- what a CHANGE tells of one QUERY -/
theorem dq_fl {S : zS} {a b : Int64} {nB sB : Nat → Bool} {q : Nat} (h1 : zl S 1 = a &&& (b ^^^ (-1))) (h2 : zl S 2 = b &&& (a ^^^ (-1))) (ha : ∀ o : Nat, o < 60 → bitL a o = sB o) (hb : ∀ o : Nat, o < 60 → bitL b o = nB o) : dq S q = tlL nB sB q false 60 ++ tlL nB sB q true 60 := by
  have e1 : bts (bitL (a &&& (b ^^^ (-1)))) 60 = bts (fun o => decide (nB o = false ∧ ¬ sB o = false)) 60 := bts_ext fun o ho => by
    rw [bit_an (by omega), ha o ho, hb o ho]
    cases sB o <;> cases nB o <;> rfl
  have e2 : bts (bitL (b &&& (a ^^^ (-1)))) 60 = bts (fun o => decide (nB o = true ∧ ¬ sB o = true)) 60 := bts_ext fun o ho => by
    rw [bit_an (by omega), ha o ho, hb o ho]
    cases sB o <;> cases nB o <;> rfl
  unfold dq
  rw [tlL_bts, tlL_bts, h1, h2, e1, e2]

/-! class and reference: a formula comes to the same -/
def oL (o : Option Nat) : Int64 := match o with
  | none => -1
  | some j => lN j
/-- the OBJECTS of both -/
def sR (SM SS : zS) (m : Nat) : Prop := (∀ o : Nat, o < m → ¬ za SS 1 o = 0 → effL SM o = oL (rfO SS o)) ∧ (∀ o : Nat, o < m → ¬ za SS 1 o = 0 → za SM 6 o = za SS 4 o) ∧ (∀ o p : Nat, o < m → ¬ za SS 1 o = 0 → p < 3 → zb SM 4 (3 * o + p) = zb SS 5 (3 * o + p)) ∧ (∀ o i : Nat, o < m → ¬ za SS 1 o = 0 → i < 8 → zb SM 7 (8 * o + i) = zb SS 6 (8 * o + i)) ∧ (∀ o : Nat, o < m → (za SM 2 o = 0 ↔ za SS 1 o = 0)) ∧ ∀ o : Nat, o < m → za SM 3 o = za SS 2 o
def hx (op h : Nat) : Nat := if op ≤ 1 then h + 1 else if op = 8 ∨ (10 ≤ op ∧ op ≤ 20) then h - 1 else h
def hxs : List (Nat × Nat) → Nat → Nat
  | [], h => h
  | x :: c, h => hxs c (hx x.1 h)
def rh (S : zS) (ro : Nat) : List (Nat × Nat) → Nat → zP → zP
  | [], _, p => p
  | x :: c, h, p => rh S ro c (hx x.1 h) (rst S ro x.1 (nI x.2) (hx x.1 h - 1) p)
theorem hxs_app : ∀ (c d : List (Nat × Nat)) (h : Nat), hxs (c ++ d) h = hxs d (hxs c h)
  | [], _, _ => rfl
  | x :: c, d, h => hxs_app c d _
theorem rh_app (S : zS) (ro : Nat) : ∀ (c d : List (Nat × Nat)) (h : Nat) (p : zP), rh S ro (c ++ d) h p = rh S ro d (hxs c h) (rh S ro c h p)
  | [], _, _, _ => rfl
  | x :: c, d, h, p => rh_app S ro c d _ _
def fres (SM SS : zS) (ro : Nat) (tst : Bool) (c : List (Nat × Nat)) (N M : List zNd) (j : Nat) : Prop :=
  BL N c (N ++ M) j ∧ j < (N ++ M).length ∧ M.length ≤ c.length ∧ (∀ h : Nat, hxs c h = h + 1) ∧
  ∀ (V : zVs) (b : Int64) (h : Nat) (p : zP), V.length = N.length →
    ∃ (W : zVs) (b' : Int64) (vis : Nat → Prop), evL SS ro M (V, b) = (V ++ W, b') ∧ (∀ o : Nat, o < 60 → (bitL b' o = true ↔ bitL b o = true ∨ vis o)) ∧ (∀ o : Nat, o < 60 → (¬ (rh SM ro c h p).2.2 o = 0 ↔ ¬ p.2.2 o = 0 ∨ vis o)) ∧
      (rh SM ro c h p).1 = (if W.any (·.2) = true then 1 else p.1) ∧
      (W.any (·.2) = false → (rh SM ro c h p).2.1 h = (gV (V ++ W) (nI j)).1 ∧ (gV (V ++ W) (nI j)).2 = false ∧ (tst = true → (gV (V ++ W) (nI j)).1 = 0 ∨ (gV (V ++ W) (nI j)).1 = 1)) ∧
      ∀ i : Nat, i < h → (rh SM ro c h p).2.1 i = p.2.1 i
def SEM (SM SS : zS) (ro : Nat) (tst : Bool) (c : List (Nat × Nat)) : Prop := ∀ N : List zNd, N.length + c.length ≤ 100000 → ∃ M j, fres SM SS ro tst c N M j
theorem gV_at {V : zVs} {j : Nat} {y : Int64 × Bool} (hj : j < 2 ^ 31) (h : V[j]? = some y) : gV V (nI j) = y := by
  unfold gV
  rw [nI_clamp hj, List.getD_eq_getElem?_getD, h]; rfl
theorem gV_app {V W : zVs} {j : Nat} (hj : j < V.length) (hj2 : j < 2 ^ 31) : gV (V ++ W) (nI j) = gV V (nI j) := by
  unfold gV
  rw [nI_clamp hj2, List.getD_eq_getElem?_getD, List.getD_eq_getElem?_getD, List.getElem?_append_left hj]
theorem gV_new (V : zVs) (y : Int64 × Bool) {n : Nat} (hn : n = V.length) (hn2 : n < 2 ^ 31) : gV (V ++ [y]) (nI n) = y := by
  refine gV_at hn2 ?_
  rw [hn, List.getElem?_append_right (Nat.le_refl _), Nat.sub_self]; rfl
theorem gV_any {V W : zVs} {j : Nat} (h1 : V.length ≤ j) (h2 : j < V.length + W.length) (hj : j < 2 ^ 31) (h : W.any (·.2) = false) : (gV (V ++ W) (nI j)).2 = false := by
  have hw : j - V.length < W.length := by omega
  have : (V ++ W)[j]? = some W[j - V.length] := by rw [List.getElem?_append_right h1, List.getElem?_eq_getElem hw]
  rw [gV_at hj this]
  have := List.any_eq_false.mp h W[j - V.length] (List.getElem_mem hw)
  simpa using this
theorem evL_1 (SS : zS) (ro : Nat) (x : zNd) (s : zVs × Int64) : evL SS ro [x] s = evS SS ro s x := rfl
theorem rk_pr {op : Nat} (h : 10 ≤ op ∧ op ≤ 18) (x y : Int64) : (prV (opC op) x y).2 = decide ((op = 13 ∨ op = 14) ∧ y = 0) ∧ ((prV (opC op) x y).2 = false → rk op x y = (prV (opC op) x y).1) := by
  have d1 : ∀ x y : Int64, y = -1 → x / y = -x := fun x y e => by
    subst e
    apply Int64.toBitVec_inj.mp
    show x.toBitVec.sdiv (-1#64) = -x.toBitVec
    rw [BitVec.sdiv_neg (by decide), BitVec.sdiv_one]
  rcases (show op = 10 ∨ op = 11 ∨ op = 12 ∨ op = 13 ∨ op = 14 ∨ op = 15 ∨ op = 16 ∨ op = 17 ∨ op = 18 by omega) with rfl | rfl | rfl | rfl | rfl | rfl | rfl | rfl | rfl
  · exact ⟨rfl, fun _ => rfl⟩
  · exact ⟨rfl, fun _ => rfl⟩
  · exact ⟨rfl, fun _ => rfl⟩
  · show (if y = 0 then ((0, true) : Int64 × Bool) else (x / y, false)).2 = _ ∧ _
    by_cases e : y = 0
    · subst e; simp [prV, opC]
    · refine ⟨by simp [e], fun _ => ?_⟩
      show (if y = 0 then 0 else if y = -1 then -x else x / y) = (if y = 0 then ((0, true) : Int64 × Bool) else (x / y, false)).1
      rw [if_neg e, if_neg e]
      by_cases e2 : y = -1
      · rw [if_pos e2, d1 x y e2]
      · rw [if_neg e2]
  · show (if y = 0 then ((0, true) : Int64 × Bool) else (x - x / y * y, false)).2 = _ ∧ _
    by_cases e : y = 0
    · subst e; simp [prV, opC]
    · refine ⟨by simp [e], fun _ => ?_⟩
      show (if y = 0 then 0 else if y = -1 then 0 else x - x / y * y) = (if y = 0 then ((0, true) : Int64 × Bool) else (x - x / y * y, false)).1
      rw [if_neg e, if_neg e]
      by_cases e2 : y = -1
      · rw [if_pos e2, d1 x y e2, e2]
        show 0 = x - -x * -1
        rw [Int64.mul_neg, Int64.mul_one, Int64.neg_neg, Int64.sub_self]
      · rw [if_neg e2]
  · refine ⟨rfl, fun _ => ?_⟩
    show (if x = y then 1 else 0) = (if hldB 61 x y then 1 else 0)
    simp [hldB]
  · refine ⟨rfl, fun _ => ?_⟩
    show (if x = y then 0 else 1) = (if hldB 35 x y then 1 else 0)
    by_cases e : x = y <;> simp [hldB, e]
  · refine ⟨rfl, fun _ => ?_⟩
    show (if x < y then 1 else 0) = (if hldB 60 x y then 1 else 0)
    simp [hldB]
  · refine ⟨rfl, fun _ => ?_⟩
    show (if y < x then 1 else 0) = (if hldB 62 x y then 1 else 0)
    simp [hldB]

/-! a whole QUERY is read -/
def zq3 (S : zS) (of fr en : Nat → Int32) : zS := (S.1, S.2.1, fun i => if i = 8 then of else if i = 9 then fr else if i = 10 then en else S.2.2.1 i, S.2.2.2)
def mrq (S : zS) (at_ ac op : Int32) (cd nm of fr en : Nat → Int32) : zS := mps (zq3 S of fr en) at_ ac op cd nm
abbrev zQr : Type := Bool × Nat × Nat × List (List (Nat × Nat))
def rqf (p : Nat) : Option zQr := some (false, p, 0, [])
def pq (r : Option zRs) (f : Nat → List (Nat × Nat) → Option zQr) : Option zQr := match r with
  | none => none
  | some (false, p, _) => rqf p
  | some (true, p, c) => f p c
def optP (sx : Nat → Nat) (N stop md p : Nat) : Option zRs := if sx p = stop then some (true, p, []) else ps sx N md p 0
def rq4 (sx : Nat → Nat) (p d : Nat) (c0 c1 c2 c3 : List (Nat × Nat)) : Option zQr := some (decide (sx p = 0), p, d, [c0, c1, c2, c3])
def rq3 (sx : Nat → Nat) (N p d : Nat) (c0 c1 c2 : List (Nat × Nat)) : Option zQr := if sx p = 59 then pq (optP sx N 0 5 (p + 1)) (fun p c3 => rq4 sx p d c0 c1 c2 c3) else rqf p
def rq2 (sx : Nat → Nat) (N p d : Nat) (c0 c1 : List (Nat × Nat)) : Option zQr := if sx p = 59 then pq (optP sx N 59 5 (p + 1)) (fun p c2 => rq3 sx N p d c0 c1 c2) else rqf p
def rq1 (sx : Nat → Nat) (N p : Nat) (c0 c1 : List (Nat × Nat)) : Option zQr := if sx p = 59 then rq2 sx N (dgs sx 2 (p + 1) 0).1 (dgs sx 2 (p + 1) 0).2 c0 c1 else rqf p
def rq0 (sx : Nat → Nat) (N p : Nat) (c0 : List (Nat × Nat)) : Option zQr := if sx p = 59 then pq (optP sx N 59 5 (p + 1)) (fun p c1 => rq1 sx N p c0 c1) else rqf p
def rq (sx : Nat → Nat) (N : Nat) : Option zQr := if 48 ≤ sx 0 ∧ sx 0 ≤ 51 then (if sx 1 = 58 then pq (optP sx N 59 0 2) (fun p c0 => rq0 sx N p c0) else rqf 1) else rqf 0
theorem lq_app {b a : Nat} {C c : List (Nat × Nat)} {cd1 nm1 cd2 nm2 : Nat → Int32} (h1 : laid cd1 nm1 b C) (ha : a = C.length) (hg : agr (b + a) cd1 nm1 cd2 nm2) (h2 : laid cd2 nm2 (b + a) c) : laid cd2 nm2 b (C ++ c) := by
  subst ha
  have := laid_app (q := b) (a := 0) (by simpa using h1) (by simpa using hg) (by simpa using h2)
  simpa using this
/-- what lies below a QUERY's own places stays -/
def qbl (nq : Nat) (cd nm of fr en cd' nm' of' fr' en' : Nat → Int32) : Prop := agr (240 * nq) cd nm cd' nm' ∧ (∀ k : Nat, k < nq → of' k = of k ∧ fr' k = fr k) ∧ ∀ k : Nat, k < 4 * nq → en' k = en k
theorem qbl_rf (nq : Nat) (cd nm of fr en : Nat → Int32) : qbl nq cd nm of fr en cd nm of fr en := ⟨agr_rf _ _ _, fun _ _ => ⟨rfl, rfl⟩, fun _ _ => rfl⟩
theorem qbl_of {nq : Nat} {cd nm of fr en cd' nm' of' fr' en' : Nat → Int32} (h : qbl nq cd nm of fr en cd' nm' of' fr' en') (v : Int32) : qbl nq cd nm of fr en cd' nm' (upd of' nq v) fr' en' := ⟨h.1, fun k hk => by rw [pk_un (by omega)]; exact h.2.1 k hk, h.2.2⟩
theorem qbl_fr {nq : Nat} {cd nm of fr en cd' nm' of' fr' en' : Nat → Int32} (h : qbl nq cd nm of fr en cd' nm' of' fr' en') (v : Int32) : qbl nq cd nm of fr en cd' nm' of' (upd fr' nq v) en' := ⟨h.1, fun k hk => by rw [pk_un (by omega)]; exact h.2.1 k hk, h.2.2⟩
theorem qbl_en {nq : Nat} {cd nm of fr en cd' nm' of' fr' en' : Nat → Int32} (h : qbl nq cd nm of fr en cd' nm' of' fr' en') {j : Nat} (hj : 4 * nq ≤ j) (v : Int32) : qbl nq cd nm of fr en cd' nm' of' fr' (upd en' j v) := ⟨h.1, h.2.1, fun k hk => by rw [pk_un (by omega)]; exact h.2.2 k hk⟩
theorem qbl_cd {nq b : Nat} {cd nm of fr en cd' nm' of' fr' en' cd2 nm2 : Nat → Int32} (h : qbl nq cd nm of fr en cd' nm' of' fr' en') (hb : 240 * nq ≤ b) (h2 : agr b cd' nm' cd2 nm2) : qbl nq cd nm of fr en cd2 nm2 of' fr' en' := ⟨agr_tr h.1 hb h2, h.2⟩
def qdone (sx : Nat → Nat) (nq : Nat) (R : zQr) (cd' nm' of' fr' en' : Nat → Int32) : Prop := ∃ c0 c1 c2 c3 : List (Nat × Nat), R.2.2.2 = [c0, c1, c2, c3] ∧ laid cd' nm' (240 * nq) (((c0 ++ c1) ++ c2) ++ c3) ∧ (((c0 ++ c1) ++ c2) ++ c3).length ≤ 160 ∧ of' nq = nI (sx 0 - 48) ∧ fr' nq = nI R.2.2.1 ∧ en' (4 * nq) = nI (240 * nq + c0.length) ∧ en' (4 * nq + 1) = nI (240 * nq + (c0 ++ c1).length) ∧ en' (4 * nq + 2) = nI (240 * nq + ((c0 ++ c1) ++ c2).length) ∧ en' (4 * nq + 3) = nI (240 * nq + (((c0 ++ c1) ++ c2) ++ c3).length)

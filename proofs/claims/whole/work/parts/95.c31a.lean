/-! a row of a QUERY comes to the same -/
def INV (SM SS : zS) (ro : Nat) (N : List zNd) (P : zP) : Prop := P.1 = (if (evL SS ro N ([], 0)).1.any (·.2) = true then 1 else 0) ∧ ∀ o : Nat, o < 60 → (bitL (evL SS ro N ([], 0)).2 o = true ↔ ¬ P.2.2 o = 0)
theorem INV_0 {SM SS : zS} {ro : Nat} : INV SM SS ro [] (0, fun _ => 0, fun _ => 0) := ⟨rfl, fun o ho => by
  show bitL 0 o = true ↔ ¬ (0 : Int32) = 0
  rw [bit0 (by omega)]; simp⟩
theorem BL_det {N N1 N2 : List zNd} {c : List (Nat × Nat)} {j1 j2 : Nat} (h1 : BL N c N1 j1) (h2 : BL N c N2 j2) : N1 = N2 ∧ j1 = j2 := by
  have := (h1 []).symm.trans (h2 [])
  cases this
  exact ⟨rfl, rfl⟩
theorem INV_s {SM SS : zS} {ro : Nat} {N N' : List zNd} {P : zP} {c : List (Nat × Nat)} {f : Int32} {t : Bool} (d : Int64) (h : INV SM SS ro N P) (hp : PF N c N' f) (hc : ¬ c = [] → SEM SM SS ro t c) (hl : N.length + c.length ≤ 100000) :
    INV SM SS ro N' (rh SM ro c 0 P) ∧ (∃ M, N' = N ++ M) ∧ ((evL SS ro N' ([], 0)).1.any (·.2) = false → vO (evL SS ro N' ([], 0)).1 f d = (if c = [] then d else (rh SM ro c 0 P).2.1 0)) := by
  rcases hp with ⟨rfl, rfl, rfl⟩ | ⟨j, rfl, hj, hB⟩
  · exact ⟨h, ⟨[], by simp⟩, fun _ => by rw [if_pos rfl, vO, if_pos rfl]⟩
  · have hne : ¬ c = [] := fun e => by
      subst e
      have := hB []
      cases this
    obtain ⟨M, j', b1, l1, k1, x1, f1⟩ := hc hne N hl
    obtain ⟨e1, e2⟩ := BL_det hB b1
    subst e1; subst e2
    have hV : (evL SS ro N ([], 0)).1.length = N.length := by rw [evL_len]; exact Nat.zero_add _
    obtain ⟨W, b', vis, g1, g2, g3, g4, g5, g6⟩ := f1 (evL SS ro N ([], 0)).1 (evL SS ro N ([], 0)).2 0 P hV
    have ee : evL SS ro (N ++ M) ([], 0) = ((evL SS ro N ([], 0)).1 ++ W, b') := by rw [evL_app]; exact g1
    refine ⟨⟨?_, fun o ho => ?_⟩, ⟨M, rfl⟩, fun ha => ?_⟩
    · rw [g4, ee, h.1, List.any_append]
      cases hA : (evL SS ro N ([], 0)).1.any (·.2) with
      | true => cases hB : W.any (·.2) <;> rfl
      | false => cases hB : W.any (·.2) <;> rfl
    · rw [ee, g3 o ho, ← h.2 o ho]; exact g2 o ho
    · rw [ee, List.any_append] at ha
      have hb := (Bool.or_eq_false_iff.mp ha).2
      obtain ⟨v1, v2, -⟩ := g5 hb
      have hjl : j < 2 ^ 31 := by
        have : (N ++ M).length ≤ 100000 := by simp only [List.length_append]; omega
        omega
      rw [if_neg hne, vO, if_neg (nI_nm hjl), v1, ee]
theorem vO_keep {SS : zS} {ro : Nat} {N M : List zNd} {f : Int32} {d : Int64} (hf : fOk N.length f) (hl : N.length < 2 ^ 31) : vO (evL SS ro (N ++ M) ([], 0)).1 f d = vO (evL SS ro N ([], 0)).1 f d := by
  rcases hf with rfl | ⟨j, hj, rfl⟩
  · rfl
  · have hV : (evL SS ro N ([], 0)).1.length = N.length := by rw [evL_len]; exact Nat.zero_add _
    have hx : ∃ W, (evL SS ro (N ++ M) ([], 0)).1 = (evL SS ro N ([], 0)).1 ++ W := by
      rw [evL_app]
      have : ∀ (M : List zNd) (s : zVs × Int64), ∃ W, (evL SS ro M s).1 = s.1 ++ W := by
        intro M
        induction M with
        | nil => intro s; exact ⟨[], by simp [evL]⟩
        | cons x M ih =>
          intro s
          obtain ⟨W, e⟩ := ih (evS SS ro s x)
          refine ⟨(evN SS ro x s).1 :: W, ?_⟩
          show (evL SS ro M (evS SS ro s x)).1 = _
          rw [e]
          show s.1 ++ [(evN SS ro x s).1] ++ W = _
          simp
      exact this M _
    obtain ⟨W, e⟩ := hx
    unfold vO
    rw [e, gV_app (by omega) (by omega)]
theorem any_keep {SS : zS} {ro : Nat} {N M : List zNd} (h : (evL SS ro (N ++ M) ([], 0)).1.any (·.2) = false) : (evL SS ro N ([], 0)).1.any (·.2) = false := by
  have : ∀ (M : List zNd) (s : zVs × Int64), (evL SS ro M s).1.any (·.2) = false → s.1.any (·.2) = false := by
    intro M
    induction M with
    | nil => intro s h; exact h
    | cons x M ih =>
      intro s h
      have := ih (evS SS ro s x) h
      have e : (evS SS ro s x).1 = s.1 ++ [(evN SS ro x s).1] := rfl
      rw [e, List.any_append] at this
      exact (Bool.or_eq_false_iff.mp this).1
  rw [evL_app] at h
  exact this M _ h
/-- all four formulas, one behind the other -/
theorem row_eq {SM SS : zS} {ro : Nat} {c0 c1 c2 c3 : List (Nat × Nat)} {G0 G1 G2 G : List zNd} {f1 f2 f3 f4 : Int32} {t0 t1 t2 t3 : Bool} (p0 : PF [] c0 G0 f1) (p1 : PF G0 c1 G1 f2) (p2 : PF G1 c2 G2 f3) (p3 : PF G2 c3 G f4) (s0 : ¬ c0 = [] → SEM SM SS ro t0 c0) (s1 : ¬ c1 = [] → SEM SM SS ro t1 c1) (s2 : ¬ c2 = [] → SEM SM SS ro t2 c2) (s3 : ¬ c3 = [] → SEM SM SS ro t3 c3) (hG : G.length ≤ 80) (l0 : c0.length ≤ 160) (l1 : c1.length ≤ 160) (l2 : c2.length ≤ 160) (l3 : c3.length ≤ 160) :
    ∃ P1 P2 P3 P4 : zP, P1 = rh SM ro c0 0 (0, fun _ => 0, fun _ => 0) ∧ P2 = rh SM ro c1 0 P1 ∧ P3 = rh SM ro c2 0 P2 ∧ P4 = rh SM ro c3 0 P3 ∧
      P4.1 = (if (evL SS ro G ([], 0)).1.any (·.2) = true then 1 else 0) ∧ (∀ o : Nat, o < 60 → (bitL (evL SS ro G ([], 0)).2 o = true ↔ ¬ P4.2.2 o = 0)) ∧
      ((evL SS ro G ([], 0)).1.any (·.2) = false → ∀ d : Int64, vO (evL SS ro G ([], 0)).1 f1 d = (if c0 = [] then d else P1.2.1 0) ∧ vO (evL SS ro G ([], 0)).1 f2 d = (if c1 = [] then d else P2.2.1 0) ∧ vO (evL SS ro G ([], 0)).1 f3 d = (if c2 = [] then d else P3.2.1 0) ∧ vO (evL SS ro G ([], 0)).1 f4 d = (if c3 = [] then d else P4.2.1 0)) := by
  obtain ⟨n0, m0, q0⟩ := PF_ok p0 (fun i x hx => by simp at hx) l0
  obtain ⟨n1, m1, q1⟩ := PF_ok p1 n0 l1
  obtain ⟨n2, m2, q2⟩ := PF_ok p2 n1 l2
  obtain ⟨n3, m3, q3⟩ := PF_ok p3 n2 l3
  refine ⟨_, _, _, _, rfl, rfl, rfl, rfl, ?_⟩
  obtain ⟨a0, ⟨M0, e0⟩, -⟩ := INV_s 0 (INV_0 (SM := SM) (SS := SS) (ro := ro)) p0 s0 (by simp; omega)
  obtain ⟨a1, ⟨M1, e1⟩, -⟩ := INV_s 0 a0 p1 s1 (by omega)
  obtain ⟨a2, ⟨M2, e2⟩, -⟩ := INV_s 0 a1 p2 s2 (by omega)
  obtain ⟨a3, ⟨M3, e3⟩, -⟩ := INV_s 0 a2 p3 s3 (by omega)
  refine ⟨a3.1, a3.2, fun ha d => ?_⟩
  have v0 := (INV_s d (INV_0 (SM := SM) (SS := SS) (ro := ro)) p0 s0 (by simp; omega)).2.2
  have v1 := (INV_s d a0 p1 s1 (by omega)).2.2
  have v2 := (INV_s d a1 p2 s2 (by omega)).2.2
  have v3 := (INV_s d a2 p3 s3 (by omega)).2.2
  have h2 : (evL SS ro G2 ([], 0)).1.any (·.2) = false := any_keep (M := M3) (by rw [← e3]; exact ha)
  have h1 : (evL SS ro G1 ([], 0)).1.any (·.2) = false := any_keep (M := M2) (by rw [← e2]; exact h2)
  have h0 : (evL SS ro G0 ([], 0)).1.any (·.2) = false := any_keep (M := M1) (by rw [← e1]; exact h1)
  refine ⟨?_, ?_, ?_, v3 ha⟩
  · rw [e3, vO_keep (fOk_w q0 (by omega)) (by omega), e2, vO_keep (fOk_w q0 (by omega)) (by omega), e1, vO_keep q0 (by omega)]; exact v0 h0
  · rw [e3, vO_keep (fOk_w q1 (by omega)) (by omega), e2, vO_keep q1 (by omega)]; exact v1 h1
  · rw [e3, vO_keep q2 (by omega)]; exact v2 h2

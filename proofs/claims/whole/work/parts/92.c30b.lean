/-! pairs, signs, numbers -/
theorem rst_bin {S : zS} {ro op b : Nat} {num : Int32} {p : zP} (h : 10 ≤ op ∧ op ≤ 20) : rst S ro op num b p = (rkA op (p.2.1 (b + 1)) p.1, vp_updL p.2.1 b (rk op (p.2.1 b) (p.2.1 (b + 1))), p.2.2) := by
  unfold rst
  rw [if_neg (by omega), if_neg (by omega), if_neg (by omega), if_neg (by omega), if_neg (by omega), if_neg (by omega), if_neg (by omega), if_neg (by omega), if_neg (by omega)]
theorem W_len {SS : zS} {ro : Nat} {M : List zNd} {V W : zVs} {b b' : Int64} (h : evL SS ro M (V, b) = (V ++ W, b')) : W.length = M.length := by
  have := evL_len SS ro M (V, b)
  rw [h] at this
  simp only [List.length_append] at this
  omega
theorem hx_bin {op : Nat} (h : 10 ≤ op ∧ op ≤ 20) (n : Nat) : hx op (n + 1 + 1) = n + 1 := by
  unfold hx; rw [if_neg (by omega), if_pos (Or.inr h)]; omega
section SEM
variable {SM SS : zS} {ro : Nat}
theorem sem_bin {t1 t2 tst : Bool} {c1 c2 : List (Nat × Nat)} {op : Nat} (h1 : SEM SM SS ro t1 c1) (h2 : SEM SM SS ro t2 c2) (hop : 10 ≤ op ∧ op ≤ 20)
    (hv : ∀ x y : Int64, (t1 = true → x = 0 ∨ x = 1) → (t2 = true → y = 0 ∨ y = 1) → (prV (opC op) x y).2 = decide ((op = 13 ∨ op = 14) ∧ y = 0) ∧ ((prV (opC op) x y).2 = false → rk op x y = (prV (opC op) x y).1 ∧ (tst = true → (prV (opC op) x y).1 = 0 ∨ (prV (opC op) x y).1 = 1))) :
    SEM SM SS ro tst (c1 ++ (c2 ++ [(op, 0)])) := by
  intro N hN
  simp only [List.length_append, List.length_cons, List.length_nil] at hN
  obtain ⟨M1, j1, b1, l1, k1, x1, f1⟩ := h1 N (by omega)
  obtain ⟨M2, j2, b2, l2, k2, x2, f2⟩ := h2 (N ++ M1) (by simp only [List.length_append]; omega)
  simp only [List.length_append] at l1 l2
  refine ⟨M1 ++ M2 ++ [(opC op, nI j1, nI j2)], (N ++ M1 ++ M2).length, ?_, ?_, ?_, ?_, ?_⟩
  · have := BL_bin b1 b2 hop
    rw [show N ++ (M1 ++ M2 ++ [(opC op, nI j1, nI j2)]) = N ++ M1 ++ M2 ++ [(opC op, nI j1, nI j2)] by simp only [List.append_assoc]]
    exact this
  · simp only [List.length_append, List.length_cons, List.length_nil]; omega
  · simp only [List.length_append, List.length_cons, List.length_nil]; omega
  · intro h
    rw [hxs_app, x1, hxs_app, x2]
    exact hx_bin hop h
  · intro V b h p hV
    obtain ⟨W1, bb1, vis1, e1, q1, r1, a1, v1, i1⟩ := f1 V b h p hV
    have w1 := W_len e1
    obtain ⟨W2, bb2, vis2, e2, q2, r2, a2, v2, i2⟩ := f2 (V ++ W1) bb1 (h + 1) (rh SM ro c1 h p) (by simp only [List.length_append]; omega)
    have w2 := W_len e2
    have erh : rh SM ro (c1 ++ (c2 ++ [(op, 0)])) h p = rst SM ro op (nI 0) h (rh SM ro c2 (h + 1) (rh SM ro c1 h p)) := by
      rw [rh_app, x1, rh_app, x2]
      show rst SM ro op (nI 0) (hx op (h + 1 + 1) - 1) _ = _
      rw [hx_bin hop]; rfl
    have g1 : gV (V ++ W1 ++ W2) (nI j1) = gV (V ++ W1) (nI j1) := gV_app (by simp only [List.length_append]; omega) (by omega)
    have hy : evL SS ro (M1 ++ M2 ++ [(opC op, nI j1, nI j2)]) (V, b) = (V ++ (W1 ++ W2 ++ [evP (opC op) (gV (V ++ W1) (nI j1)) (gV (V ++ W1 ++ W2) (nI j2))]), bb2) := by
      rw [evL_app, evL_app, e1, e2, evL_1]
      unfold evS
      rw [evN_p (opC_p hop), g1]
      simp only [List.append_assoc]
    rw [erh, rst_bin hop]
    generalize hX : gV (V ++ W1) (nI j1) = X at *
    generalize hY : gV (V ++ W1 ++ W2) (nI j2) = Y at *
    refine ⟨_, bb2, fun o => vis1 o ∨ vis2 o, hy, fun o ho => ?_, fun o ho => ?_, ?_, ?_, fun i hi => ?_⟩
    · rw [q2 o ho, q1 o ho, or_assoc]
    · show ¬ (rh SM ro c2 (h + 1) (rh SM ro c1 h p)).2.2 o = 0 ↔ _
      rw [r2 o ho, r1 o ho, or_assoc]
    · show rkA op ((rh SM ro c2 (h + 1) (rh SM ro c1 h p)).2.1 (h + 1)) (rh SM ro c2 (h + 1) (rh SM ro c1 h p)).1 = _
      rw [List.any_append, List.any_append, a2, a1]
      cases h1 : W1.any (·.2) with
      | true => simp only [Bool.true_or, if_true]; unfold rkA; (repeat' split) <;> rfl
      | false =>
        cases h2 : W2.any (·.2) with
        | true => simp only [Bool.or_true, Bool.true_or, if_true]; unfold rkA; split <;> rfl
        | false =>
          obtain ⟨z1, z2, z3⟩ := v1 h1
          obtain ⟨y1, y2, y3⟩ := v2 h2
          rw [evP_f z2 y2]
          obtain ⟨c1', -⟩ := hv X.1 Y.1 z3 y3
          simp only [List.any_cons, List.any_nil, Bool.or_false, Bool.false_or]
          rw [c1', y1]
          unfold rkA
          by_cases e : (op = 13 ∨ op = 14) ∧ Y.1 = 0
          · rw [if_pos e, decide_eq_true e]; rfl
          · rw [if_neg e, decide_eq_false e]; rfl
    · intro ha
      rw [List.any_append, List.any_append] at ha
      have hb := Bool.or_eq_false_iff.mp ha
      have hc := Bool.or_eq_false_iff.mp hb.1
      obtain ⟨z1, z2, z3⟩ := v1 hc.1
      obtain ⟨y1, y2, y3⟩ := v2 hc.2
      have hd : (evP (opC op) X Y).2 = false := by simpa using hb.2
      rw [show V ++ (W1 ++ W2 ++ [evP (opC op) X Y]) = V ++ W1 ++ W2 ++ [evP (opC op) X Y] by simp only [List.append_assoc], gV_new _ _ (by simp only [List.length_append]; omega) (by simp only [List.length_append]; omega)]
      rw [evP_f z2 y2] at hd ⊢
      obtain ⟨-, d2⟩ := hv X.1 Y.1 z3 y3
      obtain ⟨d3, d4⟩ := d2 hd
      refine ⟨?_, hd, d4⟩
      show vp_updL _ h _ h = _
      rw [pk_uLs, y1, i2 h (by omega), z1]
      exact d3
    · show vp_updL _ h _ i = _
      rw [pk_uLn (by omega), i2 i (by omega), i1 i hi]
theorem sem_un {tst : Bool} {c : List (Nat × Nat)} {op : Nat} (h1 : SEM SM SS ro tst c) (hop : (op = 9 ∧ tst = false) ∨ (op = 21 ∧ tst = true)) : SEM SM SS ro tst (c ++ [(op, 0)]) := by
  intro N hN
  simp only [List.length_append, List.length_cons, List.length_nil] at hN
  obtain ⟨M1, j1, b1, l1, k1, x1, f1⟩ := h1 N (by omega)
  simp only [List.length_append] at l1
  have hop' : op = 9 ∨ op = 21 := hop.elim (fun h => Or.inl h.1) (fun h => Or.inr h.1)
  refine ⟨M1 ++ [(opC op, nI j1, nI j1)], (N ++ M1).length, ?_, ?_, ?_, ?_, ?_⟩
  · have := BL_un b1 hop'
    rw [← List.append_assoc]; exact this
  · simp only [List.length_append, List.length_cons, List.length_nil]; omega
  · simp only [List.length_append, List.length_cons, List.length_nil]; omega
  · intro h
    rw [hxs_app, x1]
    show hx op (h + 1) = h + 1
    unfold hx; rw [if_neg (by omega), if_neg (by omega)]
  · intro V b h p hV
    obtain ⟨W1, bb1, vis1, e1, q1, r1, a1, v1, i1⟩ := f1 V b h p hV
    have w1 := W_len e1
    have erh : rh SM ro (c ++ [(op, 0)]) h p = rst SM ro op (nI 0) h (rh SM ro c h p) := by
      rw [rh_app, x1]
      show rst SM ro op (nI 0) (hx op (h + 1) - 1) _ = _
      have : hx op (h + 1) = h + 1 := by unfold hx; rw [if_neg (by omega), if_neg (by omega)]
      rw [this]; rfl
    have hP : isP (opC op) := by rcases hop' with e | e <;> rw [e] <;> decide
    have hy : evL SS ro (M1 ++ [(opC op, nI j1, nI j1)]) (V, b) = (V ++ (W1 ++ [evP (opC op) (gV (V ++ W1) (nI j1)) (gV (V ++ W1) (nI j1))]), bb1) := by
      rw [evL_app, e1, evL_1]
      unfold evS
      rw [evN_p hP]
      simp only [List.append_assoc]
    have er : rst SM ro op (nI 0) h (rh SM ro c h p) = ((rh SM ro c h p).1, vp_updL (rh SM ro c h p).2.1 h (if op = 9 then -((rh SM ro c h p).2.1 h) else 1 - (rh SM ro c h p).2.1 h), (rh SM ro c h p).2.2) := by
      rcases hop' with e | e <;> subst e <;> rfl
    rw [erh, er]
    generalize hX : gV (V ++ W1) (nI j1) = X at *
    have hE : X.2 = false → (evP (opC op) X X).2 = false := fun e => by
      rw [evP_f e e]
      rcases hop' with o | o <;> subst o <;> rfl
    refine ⟨_, bb1, vis1, hy, q1, r1, ?_, ?_, fun i hi => ?_⟩
    · show (rh SM ro c h p).1 = _
      rw [List.any_append, a1]
      cases h1 : W1.any (·.2) with
      | true => simp
      | false =>
        obtain ⟨z1, z2, z3⟩ := v1 h1
        simp [hE z2]
    · intro ha
      rw [List.any_append] at ha
      have hb := Bool.or_eq_false_iff.mp ha
      obtain ⟨z1, z2, z3⟩ := v1 hb.1
      rw [show V ++ (W1 ++ [evP (opC op) X X]) = V ++ W1 ++ [evP (opC op) X X] by simp only [List.append_assoc], gV_new _ _ (by simp only [List.length_append]; omega) (by simp only [List.length_append]; omega)]
      refine ⟨?_, hE z2, ?_⟩
      · show vp_updL _ h _ h = _
        rw [pk_uLs, z1, evP_f z2 z2]
        rcases hop with ⟨o, -⟩ | ⟨o, ht⟩
        · subst o; rfl
        · subst o
          show 1 - X.1 = (if hldB 33 X.1 X.1 then 1 else 0)
          rcases z3 ht with e | e <;> rw [e] <;> decide
      · intro ht
        rw [evP_f z2 z2]
        rcases hop with ⟨-, o⟩ | ⟨o, -⟩
        · rw [o] at ht; cases ht
        · subst o
          show (if hldB 33 X.1 X.1 then (1 : Int64) else 0) = 0 ∨ (if hldB 33 X.1 X.1 then (1 : Int64) else 0) = 1
          split
          · exact Or.inr rfl
          · exact Or.inl rfl
    · show vp_updL _ h _ i = _
      rw [pk_uLn (by omega), i1 i hi]
end SEM

/-! a QUERY comes to both -/
theorem FOK_w2 {sx : Nat → Nat} {c : List (Nat × Nat)} (h : FOK sx c) : wtl c [] = some (if c = [] then [] else [false]) := by
  by_cases hc : c = []
  · subst hc; rfl
  rw [if_neg hc]
  rcases h with e | ⟨n, md, p, op, ⟨b, q, c'⟩, hmd, h, h1, rfl⟩
  · exact absurd e hc
  · cases h1
    have := ps_w n md p op q c' (by omega) h []
    rcases hmd with rfl | rfl
    · exact this
    · exact this
theorem laid_agr {cd nm cd' nm' : Nat → Int32} {b n : Nat} {l : List (Nat × Nat)} (h : laid cd nm b l) (ha : agr n cd nm cd' nm') (hb : b + l.length ≤ n) : laid cd' nm' b l := fun i x hx => by
  have hi := (List.getElem?_eq_some_iff.mp hx).1
  have := ha (b + i) (by omega)
  rw [this.1, this.2]; exact h i x hx
theorem qok_of_laid {S : zS} {q : Nat} {sx : Nat → Nat} {c : zC} (hl : laid (za S 11) (za S 12) (240 * q) (((c.1 ++ c.2.1) ++ c.2.2.1) ++ c.2.2.2)) (hb : (((c.1 ++ c.2.1) ++ c.2.2.1) ++ c.2.2.2).length ≤ 160) (hF : ∀ x ∈ [c.1, c.2.1, c.2.2.1, c.2.2.2], FOK sx x)
    (e0 : za S 10 (4 * q) = nI (240 * q + c.1.length)) (e1 : za S 10 (4 * q + 1) = nI (240 * q + (c.1 ++ c.2.1).length)) (e2 : za S 10 (4 * q + 2) = nI (240 * q + ((c.1 ++ c.2.1) ++ c.2.2.1).length)) (e3 : za S 10 (4 * q + 3) = nI (240 * q + (((c.1 ++ c.2.1) ++ c.2.2.1) ++ c.2.2.2).length)) : qok S q (qEc q c) := by
  have w0 := FOK_w2 (hF c.1 (by simp))
  have w1 := FOK_w2 (hF c.2.1 (by simp))
  have w2 := FOK_w2 (hF c.2.2.1 (by simp))
  have w3 := FOK_w2 (hF c.2.2.2 (by simp))
  refine qok_new hl hb (fun x hx => ?_) e0 e1 e2 e3 w0 w1 w2 w3
  have : x.1 ≤ 21 := by
    rcases List.mem_append.mp hx with hx | hx
    · rcases List.mem_append.mp hx with hx | hx
      · rcases List.mem_append.mp hx with hx | hx
        · exact wtl_le _ _ _ w0 x hx
        · exact wtl_le _ _ _ w1 x hx
      · exact wtl_le _ _ _ w2 x hx
    · exact wtl_le _ _ _ w3 x hx
  omega
theorem dLs_ext {SK SK' : Nat → zS} : ∀ n : Nat, (∀ q : Nat, q < n → SK q = SK' q) → dLs SK n = dLs SK' n
  | 0, _ => rfl
  | n + 1, h => by
    simp only [dLs]
    rw [dLs_ext n (fun q hq => h q (by omega)), h n (by omega)]
theorem bts_0 : ∀ n : Nat, n ≤ 60 → bts (bitL 0) n = []
  | 0, _ => rfl
  | n + 1, h => by
    simp only [bts]
    rw [bts_0 n (by omega), bit0 (by omega)]; rfl
theorem dq_0 {S : zS} {q : Nat} (h1 : zl S 1 = 0) (h2 : zl S 2 = 0) : dq S q = [] := by
  unfold dq; rw [h1, h2, bts_0 60 (Nat.le_refl _)]; rfl
theorem updS_ne {f : Nat → zS} {q i : Nat} {a : zS} (h : ¬ i = q) : updS f q a i = f i := by unfold updS; rw [if_neg h]
def upF {α : Type} (f : Nat → α) (q : Nat) (a : α) : Nat → α := fun i => if i = q then a else f i
theorem upF_at {α : Type} (f : Nat → α) (q : Nat) (a : α) : upF f q a q = a := by unfold upF; rw [if_pos rfl]
theorem upF_ne {α : Type} {f : Nat → α} {q i : Nat} {a : α} (h : ¬ i = q) : upF f q a i = f i := by unfold upF; rw [if_neg h]
section RQY
variable {SM SS ST : zS} {SK SG SP : Nat → zS} {m nq : Nat} {D : Nat → Nat → zD} {G : Nat → List zNd} {lm : Nat → Nat} {sx : Nat → Nat → Nat} {c : Nat → zC}
/-- what is kept of the QUERIES before -/
theorem QI_bl {SM' : zS} {q : Nat} (h7 : QI SM SS m q (SK q) (SG q) (SP q) (D q) (G q) (lm q) (sx q) (c q)) (hq : q < nq) (hb : qbl nq (za SM 11) (za SM 12) (za SM 8) (za SM 9) (za SM 10) (za SM' 11) (za SM' 12) (za SM' 8) (za SM' 9) (za SM' 10)) : QI SM' SS m q (SK q) (SG q) (SP q) (D q) (G q) (lm q) (sx q) (c q) := by
  obtain ⟨k1, ⟨l1, l2, l3, l4, l5⟩, k3, k4, k5, k6, k7, k8, k9⟩ := h7
  have hl : laid (za SM' 11) (za SM' 12) (240 * q) ((((c q).1 ++ (c q).2.1) ++ (c q).2.2.1) ++ (c q).2.2.2) := laid_agr l1 hb.1 (by omega)
  have hen : ∀ f : Nat, f < 4 → za SM' 10 (4 * q + f) = nI (qEc q (c q) (f + 1)) := fun f hf => by
    rw [hb.2.2 (4 * q + f) (by omega)]; exact k6.2.2.2.1 f hf
  refine ⟨k1, ⟨hl, by rw [(hb.2.1 q hq).1]; exact l2, l3, l4, l5⟩, k3, k4, k5, qok_of_laid hl k9 (fun x hx => (l5 x hx).1) (hen 0 (by decide)) (hen 1 (by decide)) (hen 2 (by decide)) (hen 3 (by decide)), by rw [(hb.2.1 q hq).2]; exact k7, k8, k9⟩
theorem tp_0 {S S' : zS} (h1 : zi S 1 = 0) (h2 : zi S' 0 = 0) : tpo S 0 (fun _ => 0) ∧ tpC S' 0 (fun _ => 0) := ⟨⟨h1, by decide, fun k hk => absurd hk (by omega), fun _ _ => rfl, fun _ => by show 0 < 127; omega⟩, ⟨h2, by decide, fun k hk => absurd hk (by omega), fun _ _ => rfl, fun _ => by show 0 < 127; omega⟩⟩
/-- a text with a FAULT -/
theorem REL_qn {SM' ST' SP5 : zS} (h : REL SM SS ST SK SG SP m nq D G lm sx c) (hb : qbl nq (za SM 11) (za SM 12) (za SM 8) (za SM 9) (za SM 10) (za SM' 11) (za SM' 12) (za SM' 8) (za SM' 9) (za SM' 10)) (i1 : zi SM' 1 = 0) (t0 : zi ST' 0 = 0) (i2 : zi SM' 2 = zi SM 2) (i3 : zi SM' 3 = zi SM 3) (i4 : zi SM' 4 = zi SM 4) (a2 : za SM' 2 = za SM 2) (a3 : za SM' 3 = za SM 3) (a5 : za SM' 5 = za SM 5) (a6 : za SM' 6 = za SM 6) (a13 : za SM' 13 = za SM 13) (b4 : zb SM' 4 = zb SM 4) (b7 : zb SM' 7 = zb SM 7) : REL SM' SS ST' SK SG (updS SP nq SP5) m nq D G lm sx c := by
  obtain ⟨⟨h1, h2, h3, h4⟩, ⟨h5, h6⟩, h7, h8, ⟨h9, h10⟩, hz0, -⟩ := h
  refine ⟨⟨h1, objOk_of a5 a6 h2, by rw [i2]; exact h3, sR2_of a2 a3 a5 a6 b4 b7 h4⟩, ⟨h5, by rw [i3]; exact h6⟩, fun q hq => ?_, h8, ⟨by rw [i4]; exact h9, by rw [a13]; exact h10⟩, hz0, 0, _, tp_0 i1 t0⟩
  rw [updS_ne (by omega)]
  exact QI_bl (h7 q hq) hq hb
/-- a QUERY that is read -/
theorem REL_qy {SM' ST' SP5 SK5 SG5 : zS} {G5 : List zNd} {s : Nat → Nat} {R : zQr} (h : REL SM SS ST SK SG SP m nq D G lm sx c) (hn6 : nq < 6) (hQ : rq s 1000 = some R) (hRb : R.1 = true) (hb : qbl nq (za SM 11) (za SM 12) (za SM 8) (za SM 9) (za SM 10) (za SM' 11) (za SM' 12) (za SM' 8) (za SM' 9) (za SM' 10)) (hd : qdone s nq R (za SM' 11) (za SM' 12) (za SM' 8) (za SM' 9) (za SM' 10))
    (f1 : kS SK5 SG5 SP5 (fwD (fun _ => true) (fun _ => none) (rowR SS SP5 G5) m) G5 R.2.2.1) (f2 : zb SK5 1 = fwH (fun _ => true) (zb (SK nq) 1) (rowR SS SP5 G5) m) (f3 : zl SK5 0 = shM (fwD (fun _ => true) (fun _ => none) (rowR SS SP5 G5) m) R.2.2.1 ∧ zl SK5 1 = zl (SK nq) 1 ∧ zl SK5 2 = zl (SK nq) 2) (f4 : cdone s R G5 (zi SP5 1) (zi SP5 2) (zi SP5 3) (zi SP5 4) (zi SP5 5) (zi SP5 6)) (tp : Nat) (hs0 : ∀ k : Nat, tp ≤ k → s k = 0) (htp : tp ≤ 80)
    (i1 : zi SM' 1 = 0) (t0 : zi ST' 0 = 0) (i2 : zi SM' 2 = zi SM 2) (i3 : zi SM' 3 = nI (nq + 1)) (i4 : zi SM' 4 = zi SM 4) (a2 : za SM' 2 = za SM 2) (a3 : za SM' 3 = za SM 3) (a5 : za SM' 5 = za SM 5) (a6 : za SM' 6 = za SM 6) (a13 : za SM' 13 = za SM 13) (b4 : zb SM' 4 = zb SM 4) (b7 : zb SM' 7 = zb SM 7) :
    ∃ c5 : zC, REL SM' SS ST' (updS SK nq SK5) (updS SG nq SG5) (updS SP nq SP5) m (nq + 1) (upF D nq (fwD (fun _ => true) (fun _ => none) (rowR SS SP5 G5) m)) (upF G nq G5) (upF lm nq R.2.2.1) (upF sx nq s) (upF c nq c5) := by
  obtain ⟨⟨h1, h2, h3, h4⟩, ⟨h5, h6⟩, h7, h8, ⟨h9, h10⟩, hz0, -⟩ := h
  obtain ⟨c0, c1, c2, c3, r1, r2, r3, r4, r5, r6, r7, r8, r9⟩ := hd
  obtain ⟨d0, d1, d2, d3, G0, G1, G2, s1, s2, s3, s4, s5, s6, s7, s8⟩ := f4
  rw [r1] at s1
  cases s1
  obtain ⟨hl, hlen⟩ := rq_ok hs0 htp hQ hRb
  have hF := rq_f hQ hRb
  rw [r1] at hF hlen
  have hz := h8 nq (Nat.le_refl _) hn6
  have hm := h1.1
  refine ⟨(c0, c1, c2, c3), ⟨h1, objOk_of a5 a6 h2, by rw [i2]; exact h3, sR2_of a2 a3 a5 a6 b4 b7 h4⟩, ⟨by omega, i3⟩, fun q hq => ?_, fun q q1 q2 => ?_, ⟨?_, ?_⟩, hz0, 0, _, tp_0 i1 t0⟩
  · by_cases e : q = nq
    · subst e
      rw [updS_at, updS_at, updS_at, upF_at, upF_at, upF_at, upF_at, upF_at]
      refine ⟨f1, ⟨r2, by rw [r4, s7], ⟨G0, G1, G2, s2, s3, s4, s5⟩, s6, fun x hx => ⟨hF x hx, hlen x hx⟩⟩, ⟨fun o ho => ?_, fun o o1 o2 => ?_, fun o ho => ?_⟩, f3.1, ⟨by rw [f3.2.1, hz.2.1]; exact b60_0, by rw [f3.2.2, hz.2.2]; exact b60_0⟩, qok_of_laid r2 r3 (fun x hx => hF x hx) r6 r7 r8 r9, r5, hl, r3⟩
      · unfold fwD; rw [if_pos ⟨ho, rfl⟩]
      · unfold fwD; rw [if_neg (fun z => absurd z.1 (by omega))]
      · rw [f2]; unfold fwH; rw [if_pos ⟨ho, rfl⟩]
    · rw [updS_ne e, updS_ne e, updS_ne e, upF_ne e, upF_ne e, upF_ne e, upF_ne e, upF_ne e]
      exact QI_bl (h7 q (by omega)) (by omega) hb
  · rw [updS_ne (by omega), updS_ne (by omega)]
    exact h8 q (by omega) q2
  · rw [i4]
    simp only [dLs]
    rw [dLs_ext (SK' := SK) nq (fun q hq => updS_ne (by omega)), updS_at, dq_0 (f3.2.1.trans hz.2.1) (f3.2.2.trans hz.2.2), List.append_nil]
    exact h9
  · rw [a13]
    simp only [dLs]
    rw [dLs_ext (SK' := SK) nq (fun q hq => updS_ne (by omega)), updS_at, dq_0 (f3.2.1.trans hz.2.1) (f3.2.2.trans hz.2.2), List.append_nil]
    exact h10
end RQY

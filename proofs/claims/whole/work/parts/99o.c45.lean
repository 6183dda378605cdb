/-! one call of both: alike in the answer, and side by side again -/
abbrev R7a : Room := { frames := 7, cells := 0, slots := 0, locals := 290 }
abbrev R7b : Room := { frames := 3, cells := 0, slots := 0, locals := 100 }
abbrev R7c : Room := { frames := 4, cells := 0, slots := 0, locals := 140 }
abbrev R7q : Room := { frames := 2010, cells := 0, slots := 0, locals := 60300 }
abbrev R8a : Room := { frames := 6, cells := 0, slots := 0, locals := 170 }
abbrev R8b : Room := { frames := 6, cells := 0, slots := 0, locals := 200 }
abbrev R8q : Room := { frames := 1012, cells := 0, slots := 0, locals := 40300 }
abbrev R80 : Room := { frames := 0, cells := 0, slots := 0, locals := 0 }
def sameM (SM SM' : zS) : Prop := zi SM' 1 = zi SM 1 ∧ zi SM' 2 = zi SM 2 ∧ zi SM' 3 = zi SM 3 ∧ zi SM' 4 = zi SM 4 ∧ za SM' 1 = za SM 1 ∧ za SM' 2 = za SM 2 ∧ za SM' 3 = za SM 3 ∧ za SM' 5 = za SM 5 ∧ za SM' 6 = za SM 6 ∧ za SM' 8 = za SM 8 ∧ za SM' 9 = za SM 9 ∧ za SM' 10 = za SM 10 ∧ za SM' 11 = za SM 11 ∧ za SM' 12 = za SM 12 ∧ za SM' 13 = za SM 13 ∧ zb SM' 4 = zb SM 4 ∧ zb SM' 7 = zb SM 7
theorem RELx_of {c : cS} {SM SM' : zS} (h : RELx c SM) (hs : sameM SM SM') : RELx c SM' := by
  obtain ⟨S, SQ, SS, ST, SR, SW, SK, SG, SP, xp, nq⟩ := c
  obtain ⟨m, D, G, lm, sx, c, h, h360⟩ := h
  obtain ⟨i1, i2, i3, i4, a1, a2, a3, a5, a6, a8, a9, a10, a11, a12, a13, b4, b7⟩ := hs
  exact ⟨m, D, G, lm, sx, c, REL_of h i1 i2 i3 i4 a1 a2 a3 a5 a6 a8 a9 a10 a11 a12 a13 b4 b7, h360⟩
def TwoI (l : Launch) (E : zE) (R : cR) (rm : Nat → Nat) (ft : FieldType) (y7 : MethodName) (b7 : ByteArray) (n7 : Nat) (m7 : Room) (y8 : MethodName) (b8 : ByteArray) (n8 : Nat) (m8 : Room) (as : List Value) (c : cS) (SM : zS) : Prop := ∃ (a : Int32) (P : cS → Prop) (Q : zS → Prop), Ct l y7 b7 n7 (some ft) m7 E (cW E R c) (.ref (R.1 0) :: as) (cP E R (.int a) P) ∧ Ct l y8 b8 n8 (some ft) m8 E (mw E rm SM) (.ref (rm 0) :: as) (mP E rm (.int a) Q) ∧ ∀ (c' : cS) (S' : zS), P c' → Q S' → RELx c' S'
def TwoX {α : Type} (V : α → Value) (l : Launch) (E : zE) (R : cR) (rm : Nat → Nat) (ft : FieldType) (cl : String) (y7 : MethodName) (b7 : ByteArray) (n7 : Nat) (m7 : Room) (y8 : MethodName) (b8 : ByteArray) (n8 : Nat) (m8 : Room) (as : List Value) (c : cS) (SM : zS) : Prop := (∃ (a : α) (P : cS → Prop) (Q : zS → Prop), Ct l y7 b7 n7 (some ft) m7 E (cW E R c) (.ref (R.1 0) :: as) (cP E R (V a) P) ∧ Ct l y8 b8 n8 (some ft) m8 E (mw E rm SM) (.ref (rm 0) :: as) (mP E rm (V a) Q) ∧ ∀ (c' : cS) (S' : zS), P c' → Q S' → RELx c' S' ∧ zi S' 0 = 0) ∨ ∃ (a : α) (c1 : cS) (Q : zS → Prop), CtX l y7 b7 n7 (some ft) RXr E (cW E R c) (.ref (R.1 0) :: as) cl (cW E R c1) ∧ Ct l y8 b8 n8 (some ft) m8 E (mw E rm SM) (.ref (rm 0) :: as) (mP E rm (V a) Q) ∧ ∀ S' : zS, Q S' → RELx c1 S' ∧ zi S' 0 = 1
section PAIR
variable {l : Launch} {E : zE} {R : cR} {rm : Nat → Nat} {ft : FieldType} {cl : String} {y7 y8 : MethodName} {b7 b8 : ByteArray} {n7 n8 : Nat} {m7 m8 : Room} {as : List Value} {c : cS} {SM : zS}
theorem mS {a : Value} {S1 : zS} {Q : zS → Prop} (h : Ct l y8 b8 n8 (some ft) m8 E (mw E rm SM) (.ref (rm 0) :: as) (fun v_ w_ => v_ = some a ∧ w_ = mw E rm S1)) (hq : Q S1) : Ct l y8 b8 n8 (some ft) m8 E (mw E rm SM) (.ref (rm 0) :: as) (mP E rm a Q) := h.mono (fun _ _ hp => ⟨hp.1, S1, hp.2, hq⟩)
theorem two_id {a : Int32} (h : RELx c SM) (h7 : Ct l y7 b7 n7 (some ft) m7 E (cW E R c) (.ref (R.1 0) :: as) (fun v_ w_ => v_ = some (.int a) ∧ w_ = cW E R c)) (h8 : Ct l y8 b8 n8 (some ft) m8 E (mw E rm SM) (.ref (rm 0) :: as) (mP E rm (.int a) (sameM SM))) : TwoI l E R rm ft y7 b7 n7 m7 y8 b8 n8 m8 as c SM :=
  ⟨a, fun c' => c' = c, sameM SM, h7.mono (fun _ _ hp => ⟨hp.1, c, hp.2, rfl⟩), h8, fun c' S' e hs => by subst e; exact RELx_of h hs⟩
theorem twoX_y {α : Type} {V : α → Value} {a : α} (h : RELx c SM) (h7 : Ct l y7 b7 n7 (some ft) m7 E (cW E R c) (.ref (R.1 0) :: as) (fun v_ w_ => v_ = some (V a) ∧ w_ = cW E R c)) (h8 : Ct l y8 b8 n8 (some ft) m8 E (mw E rm SM) (.ref (rm 0) :: as) (mP E rm (V a) (fun S' => sameM SM S' ∧ zi S' 0 = 0))) : TwoX V l E R rm ft cl y7 b7 n7 m7 y8 b8 n8 m8 as c SM :=
  Or.inl ⟨a, fun c' => c' = c, _, h7.mono (fun _ _ hp => ⟨hp.1, c, hp.2, rfl⟩), h8, fun c' S' e hs => by subst e; exact ⟨RELx_of h hs.1, hs.2⟩⟩
theorem twoX_x {α : Type} {V : α → Value} {a : α} (h : RELx c SM) (h7 : CtX l y7 b7 n7 (some ft) RXr E (cW E R c) (.ref (R.1 0) :: as) cl (cW E R c)) (h8 : Ct l y8 b8 n8 (some ft) m8 E (mw E rm SM) (.ref (rm 0) :: as) (mP E rm (V a) (fun S' => sameM SM S' ∧ zi S' 0 = 1))) : TwoX V l E R rm ft cl y7 b7 n7 m7 y8 b8 n8 m8 as c SM :=
  Or.inr ⟨a, c, _, h7, h8, fun S' hs => ⟨RELx_of h hs.1, hs.2⟩⟩
end PAIR
section CHG
variable {l : Launch} {E : zE} {rm : Nat → Nat} {ft : FieldType} {y7 y8 : MethodName} {b7 b8 : ByteArray} {n7 n8 : Nat} {m7 m8 : Room} {as : List Value} {r rs rt rr rq rw : Nat → Nat} {rk rp rg : Nat → Nat → Nat} {S SQ SS ST SR SW SM : zS} {SK SG SP : Nat → zS} {xp : Value} {nq m : Nat} {D : Nat → Nat → zD} {G : Nat → List zNd} {lm : Nat → Nat} {sx : Nat → Nat → Nat} {c : Nat → zC}
theorem two_chg {SS' SM' : zS} {m' ch : Nat} (av : (Nat → zS) → Int32) (am : Int32) (h : REL SM SS ST SK SG SP m nq D G lm sx c) (hs' : stOk SS' m') (hz' : dz SS' m') (ho' : objOk SM') (i2 : zi SM' 2 = nI m') (hR' : sR2 SM' SS' m') (hA : AG SS SS' ch) (hch : ch < 60) (hm' : m ≤ m') (hc' : ∀ o : Nat, m ≤ o → o < m' → o = ch) (i1 : zi SM' 1 = zi SM 1) (i3 : zi SM' 3 = zi SM 3) (a1 : za SM' 1 = za SM 1) (a8 : za SM' 8 = za SM 8) (a9 : za SM' 9 = za SM 9) (a10 : za SM' 10 = za SM 10) (a11 : za SM' 11 = za SM 11) (a12 : za SM' 12 = za SM 12)
    (hav : ∀ SK' : Nat → zS, dfN SK' nq = (dfl (nBf SM m (fun q => qEc q (c q)) lm) (nBf SM' m' (fun q => qEc q (c q)) lm) nq).length → av SK' = am)
    (h7 : Ct l y7 b7 n7 (some ft) m7 E (cW E (r, rs, rt, rr, rq, rw, rk, rp, rg) (S, SQ, SS, ST, SR, SW, SK, SG, SP, xp, nq)) (.ref (r 0) :: as) (fun v_ w_ => ∃ SK' : Nat → zS, ∃ SG' : Nat → zS, ∃ SW' : zS, v_ = some (.int (av SK')) ∧ w_ = cW E (r, rs, rt, rr, rq, rw, rk, rp, rg) (S, SQ, SS', ST, SR, SW', SK', SG', SP, xp, nq) ∧ (∀ q : Nat, q < nq → flP SS' m' ch (SK q) (SP q) (D q) (G q) (lm q) (SK' q) (SG' q)) ∧ ∀ q : Nat, nq ≤ q → SK' q = SK q ∧ SG' q = SG q))
    (h8 : Ct l y8 b8 n8 (some ft) m8 E (mw E rm SM) (.ref (rm 0) :: as) (fun v_ w_ => ∃ hh : Int32, ∃ ab : Int32, ∃ f : Nat → Int64, ∃ hg : Nat → Int32, ∃ md : Nat → Int64, ∃ n : Int32, ∃ row : Nat → Int32, ∃ key : Nat → Int64, ∃ grp : Nat → Int64, ∃ sm : Nat → Int64, ∃ sh : Nat → Int32, ∃ nw : Nat → Int32, ∃ df : Nat → Int32, v_ = some (.int am) ∧ w_ = mw E rm (mse SM' hh ab f hg md n row key grp sm sh nw (nI (dfl (nBf SM m (fun q => qEc q (c q)) lm) (nBf SM' m' (fun q => qEc q (c q)) lm) nq).length) df) ∧ dfR (dfl (nBf SM m (fun q => qEc q (c q)) lm) (nBf SM' m' (fun q => qEc q (c q)) lm) nq) df)) :
    TwoI l E (r, rs, rt, rr, rq, rw, rk, rp, rg) rm ft y7 b7 n7 m7 y8 b8 n8 m8 as (S, SQ, SS, ST, SR, SW, SK, SG, SP, xp, nq) SM := by
  refine ⟨am, fun c' => ∃ (SK' SG' : Nat → zS) (SW' : zS), c' = (S, SQ, SS', ST, SR, SW', SK', SG', SP, xp, nq) ∧ (∀ q : Nat, q < nq → flP SS' m' ch (SK q) (SP q) (D q) (G q) (lm q) (SK' q) (SG' q)) ∧ ∀ q : Nat, nq ≤ q → SK' q = SK q ∧ SG' q = SG q, fun S' => ∃ (hh ab : Int32) (f : Nat → Int64) (hg : Nat → Int32) (md : Nat → Int64) (n : Int32) (row : Nat → Int32) (key grp sm : Nat → Int64) (sh nw df : Nat → Int32), S' = mse SM' hh ab f hg md n row key grp sm sh nw (nI (dfl (nBf SM m (fun q => qEc q (c q)) lm) (nBf SM' m' (fun q => qEc q (c q)) lm) nq).length) df ∧ dfR (dfl (nBf SM m (fun q => qEc q (c q)) lm) (nBf SM' m' (fun q => qEc q (c q)) lm) nq) df, h7.mono ?_, h8.mono ?_, ?_⟩
  · rintro v w ⟨SK', SG', SW', e1, e2, hf, hk⟩
    have e := (REL_chg h hs' hz' ho' i2 hR' hA hch hm' hc' i1 i3 a1 a8 a9 a10 a11 a12 hf hk).1
    exact ⟨by rw [e1, hav SK' e], _, e2, SK', SG', SW', rfl, hf, hk⟩
  · rintro v w ⟨hh, ab, f, hg, md, n, row, key, grp, sm, sh, nw, df, e1, e2, e3⟩
    exact ⟨e1, _, e2, hh, ab, f, hg, md, n, row, key, grp, sm, sh, nw, df, rfl, e3⟩
  · rintro c' S' ⟨SK', SG', SW', rfl, hf, hk⟩ ⟨hh, ab, f, hg, md, n, row, key, grp, sm, sh, nw, df, rfl, e3⟩
    have g := REL_chg h hs' hz' ho' i2 hR' hA hch hm' hc' i1 i3 a1 a8 a9 a10 a11 a12 hf hk
    have g2 := g.2 (mse SM' hh ab f hg md n row key grp sm sh nw (nI (dfl (nBf SM m (fun q => qEc q (c q)) lm) (nBf SM' m' (fun q => qEc q (c q)) lm) nq).length) df) rfl rfl rfl rfl rfl rfl rfl rfl rfl rfl rfl rfl rfl rfl rfl rfl e3
    refine ⟨m', _, G, lm, sx, c, g2, ?_⟩
    have e := dfN_dLs (SK := SK') (nq := nq) (fun q hq => (g2.2.2.1 q hq).2.2.2.2.1)
    have e4 := g.1
    have e5 := dfl_len (nBf SM m (fun q => qEc q (c q)) lm) (nBf SM' m' (fun q => qEc q (c q)) lm) nq
    have e6 := h.2.1.1
    omega
end CHG
theorem th_ex {m : Nat} {th : Nat → Int32} {o : Int32} (hm : m ≤ 60) (h : thB m th o = true) : ∃ j : Nat, j < m ∧ o = nI j ∧ ¬ th j = 0 := by
  by_cases e : ∃ j : Nat, j < m ∧ o = nI j
  · obtain ⟨j, hj, rfl⟩ := e
    rw [thB_nI (by omega) hj] at h
    exact ⟨j, hj, rfl, of_decide_eq_true h⟩
  · rw [thB_no (by omega) e] at h; cases h
theorem rg_n {x M : Int32} {n : Nat} (hM : M.toInt = n) (h : 0 ≤ x ∧ x ≤ M) : ∃ j : Nat, j ≤ n ∧ x = nI j := nI_of2 hM (fun z => by
  have h1 := h.1
  rw [Int32.le_iff_toInt_le] at h1
  rw [Int32.lt_iff_toInt_lt] at z
  omega) h.2
theorem wi_ix' {o : Int32} {m : Nat} (hm : m < 2 ^ 31) (h : 0 ≤ o ∧ o ≤ nI m - 1) : ∃ j : Nat, j < m ∧ o = nI j := wi_ix hm (decide_eq_true h)
theorem wi_no' {o : Int32} {m : Nat} (hm : m < 2 ^ 31) (h : ¬ (0 ≤ o ∧ o ≤ nI m - 1)) : ¬ ∃ j : Nat, j < m ∧ o = nI j := wi_no hm (decide_eq_false h)
theorem it_ok : ∀ ln : Nat, ln < 9 → ∀ i : Nat, i < ln → ¬ (nI i).toInt64 < 0 ∧ ¬ (nI ln).toInt64 ≤ (nI i).toInt64 := by decide +kernel
theorem it_ln : ∀ ln : Nat, ln < 9 → (nI ln).toInt = (ln : Int) ∧ (nI ln - 1).toInt = (ln : Int) - 1 ∧ (9 + nI ln).toInt = 9 + (ln : Int) := by decide +kernel
theorem it_no {i : Int32} {ln : Nat} (hl : ln ≤ 8) (h : ¬ (0 ≤ i ∧ i ≤ nI ln - 1)) : decide (¬ i.toInt64 < 0 ∧ ¬ (nI ln).toInt64 ≤ i.toInt64) = false := decide_eq_false (fun z => h (by
  obtain ⟨e1, e2, -⟩ := it_ln ln (by omega)
  have z1 := z.1
  have z2 := z.2
  have e0 : (0 : Int64).toInt = 0 := by decide
  have e3 : (0 : Int32).toInt = 0 := by decide
  rw [Int64.lt_iff_toInt_lt, Int32.toInt_toInt64, e0] at z1
  rw [Int64.le_iff_toInt_le, Int32.toInt_toInt64, Int32.toInt_toInt64, e1] at z2
  rw [Int32.le_iff_toInt_le, Int32.le_iff_toInt_le, e2, e3]
  omega))
theorem lk_ix {w : Int32} {ln : Nat} (hl : ln ≤ 8) (h : 10 ≤ w ∧ w ≤ 9 + nI ln) : ∃ i : Nat, i < ln ∧ w = nI (10 + i) := by
  obtain ⟨-, -, e3⟩ := it_ln ln (by omega)
  obtain ⟨h1, h2⟩ := h
  have e0 : (10 : Int32).toInt = 10 := by decide
  rw [Int32.le_iff_toInt_le, e0] at h1
  rw [Int32.le_iff_toInt_le, e3] at h2
  refine ⟨(w.toInt - 10).toNat, by omega, Int32.toInt_inj.mp ?_⟩
  rw [nI_toInt (by omega)]
  omega
theorem s10 (i : Nat) : nI (10 + i) - 10 = nI i := by
  have e : nI (10 + i) = nI i + 10 := by rw [Nat.add_comm]; exact (nI_add i 10).symm
  rw [e]
  first | exact Int32.add_sub_cancel _ _ | simp
theorem lk_no {w : Int32} {ln : Nat} (hl : ln ≤ 8) (h : ¬ (10 ≤ w ∧ w ≤ 9 + nI ln)) (h10 : ¬ w < 10) : decide (¬ (w - 10).toInt64 < 0 ∧ ¬ (nI ln).toInt64 ≤ (w - 10).toInt64) = false := by
  obtain ⟨e1, -, e3⟩ := it_ln ln (by omega)
  have e0 : (10 : Int32).toInt = 10 := by decide
  rw [Int32.le_iff_toInt_le, Int32.le_iff_toInt_le, e0, e3] at h
  rw [Int32.lt_iff_toInt_lt, e0] at h10
  obtain ⟨j, hj, rfl⟩ := nI_of (x := w) (fun z => by
    rw [Int32.lt_iff_toInt_lt] at z
    have : (0 : Int32).toInt = 0 := by decide
    omega)
  rw [nI_toInt hj] at h h10
  obtain ⟨i, rfl⟩ : ∃ i, j = 10 + i := ⟨j - 10, by omega⟩
  rw [s10]
  refine decide_eq_false (fun z => z.2 ?_)
  rw [Int64.le_iff_toInt_le, Int32.toInt_toInt64, Int32.toInt_toInt64, e1, nI_toInt (by omega)]
  omega
theorem tw4 (w : Int32) : w = 0 ∨ w = 1 ∨ w = 2 ∨ w = 3 ∨ (w.toInt < 0 ∨ 3 < w.toInt) := by
  rcases tw3 w with h | h | h | h | h
  · exact Or.inl h
  · exact Or.inr (Or.inl h)
  · exact Or.inr (Or.inr (Or.inl h))
  · exact Or.inr (Or.inr (Or.inr (Or.inr (Or.inl h))))
  · by_cases e : w.toInt = 3
    · exact Or.inr (Or.inr (Or.inr (Or.inl (Int32.toInt_inj.mp (by rw [e]; decide)))))
    · exact Or.inr (Or.inr (Or.inr (Or.inr (Or.inr (by omega)))))
theorem tw6 (w : Int32) : w = 0 ∨ w = 1 ∨ w = 2 ∨ w = 3 ∨ w = 4 ∨ w = 5 ∨ (w.toInt < 0 ∨ 5 < w.toInt) := by
  rcases tw4 w with h | h | h | h | h | h
  · exact Or.inl h
  · exact Or.inr (Or.inl h)
  · exact Or.inr (Or.inr (Or.inl h))
  · exact Or.inr (Or.inr (Or.inr (Or.inl h)))
  · exact Or.inr (Or.inr (Or.inr (Or.inr (Or.inr (Or.inr (Or.inl h))))))
  · by_cases e : w.toInt = 4
    · exact Or.inr (Or.inr (Or.inr (Or.inr (Or.inl (Int32.toInt_inj.mp (by rw [e]; decide))))))
    · by_cases e : w.toInt = 5
      · exact Or.inr (Or.inr (Or.inr (Or.inr (Or.inr (Or.inl (Int32.toInt_inj.mp (by rw [e]; decide)))))))
      · exact Or.inr (Or.inr (Or.inr (Or.inr (Or.inr (Or.inr (Or.inr (by omega)))))))
theorem out_w {w M : Int32} {n : Int} (hM : M.toInt = n) (h : w.toInt < 0 ∨ n < w.toInt) : ¬ (0 ≤ w ∧ w ≤ M) := fun z => by
  have z1 := z.1
  have z2 := z.2
  have e0 : (0 : Int32).toInt = 0 := by decide
  rw [Int32.le_iff_toInt_le] at z1 z2
  omega
/-! a text is read to an end -/
theorem pq_e {tp : Nat} {r : Option zRs} {f : Nat → List (Nat × Nat) → Option zQr} (h1 : ∃ R, r = some R ∧ R.2.1 ≤ tp) (h2 : ∀ p c, p ≤ tp → ∃ R, f p c = some R ∧ R.2.1 ≤ tp + 1) : ∃ R : zQr, pq r f = some R ∧ R.2.1 ≤ tp + 1 := by
  obtain ⟨⟨b, p, c⟩, rfl, hp⟩ := h1
  have hp : p ≤ tp := hp
  cases b
  · exact ⟨_, rfl, by show p ≤ tp + 1; omega⟩
  · exact h2 p c hp
theorem optP_e {tp : Nat} {sx : Nat → Nat} (h0 : ∀ k : Nat, tp ≤ k → sx k = 0) (ht : tp ≤ 80) {stop md p : Nat} (hmd : md ≤ 9) (hp : p ≤ tp) : ∃ R, optP sx 1000 stop md p = some R ∧ R.2.1 ≤ tp := by
  unfold optP
  split
  · exact ⟨_, rfl, hp⟩
  · have hr : rnk md ≤ 10 := by unfold rnk; (repeat' split) <;> omega
    obtain ⟨R, hR⟩ := ps_t h0 1000 md p 0 (by omega) hp (by omega)
    exact ⟨R, hR, (ps_b h0 _ _ _ _ _ (by omega) hR).2.1 hp⟩
theorem rq_e {tp : Nat} {sx : Nat → Nat} (h0 : ∀ k : Nat, tp ≤ k → sx k = 0) (ht : tp ≤ 80) : ∃ R, rq sx 1000 = some R ∧ R.2.1 ≤ tp + 1 := by
  have lt : ∀ {p c : Nat}, sx p = c → ¬ c = 0 → p < tp := fun h hc => sx_lt h0 (by rw [h]; exact hc)
  unfold rq
  split
  · split
    next e1 =>
      have t1 := lt e1 (by decide)
      refine pq_e (optP_e h0 ht (by decide) (by omega)) (fun p0 c0 q0 => ?_)
      unfold rq0
      split
      next e2 =>
        have t2 := lt e2 (by decide)
        refine pq_e (optP_e h0 ht (by decide) (by omega)) (fun p1 c1 q1 => ?_)
        unfold rq1
        split
        next e3 =>
          have t3 := lt e3 (by decide)
          have hd := (dgs_b h0 2 (p1 + 1) 0).2.1 (by omega)
          unfold rq2
          split
          next e4 =>
            have t4 := lt e4 (by decide)
            refine pq_e (optP_e h0 ht (by decide) (by omega)) (fun p2 c2 q2 => ?_)
            unfold rq3
            split
            next e5 =>
              have t5 := lt e5 (by decide)
              refine pq_e (optP_e h0 ht (by decide) (by omega)) (fun p3 c3 q3 => ?_)
              exact ⟨_, rfl, by show p3 ≤ tp + 1; omega⟩
            next => exact ⟨_, rfl, by show p2 ≤ tp + 1; omega⟩
          next => exact ⟨_, rfl, by show (dgs sx 2 (p1 + 1) 0).1 ≤ tp + 1; omega⟩
        next => exact ⟨_, rfl, by show p1 ≤ tp + 1; omega⟩
      next => exact ⟨_, rfl, by show p0 ≤ tp + 1; omega⟩
    next => exact ⟨_, rfl, by show 1 ≤ tp + 1; omega⟩
  · exact ⟨_, rfl, by show 0 ≤ tp + 1; omega⟩
section PAIRS
variable {l : Launch} {E : zE} {R : cR} {rm : Nat → Nat} {c : cS} {SM : zS}
theorem t_object (h : RELx c SM) (kd : Int32) : TwoI l E R rm .int yX7_object cX7_object 3 R7a yX8_object cX8_object 3 R8a [.int kd] c SM := by
  obtain ⟨r, rs, rt, rr, rq, rw, rk, rp, rg⟩ := R
  obtain ⟨S, SQ, SS, ST, SR, SW, SK, SG, SP, xp, nq⟩ := c
  have h0 := h
  obtain ⟨m, D, G, lm, sx, c, h, h360⟩ := h
  have hm := h.1.1.1
  have hn := h.2.1.1
  have hn3 := h.2.1.2
  have hmo := h.1.2.2.1
  by_cases e : 0 ≤ kd ∧ kd ≤ 3 ∧ m < 60
  · obtain ⟨k, hk, rfl⟩ := rg_n (n := 3) (by decide) ⟨e.1, e.2.1⟩
    exact two_chg (SS' := zI (zA (zA (zA SS 1 m 1) 2 m (nI k)) 3 m (-1)) 0 (nI (m + 1))) (SM' := zI (zA (zA (zA (zI SM 0 0) 2 m 1) 3 m (nI k)) 5 m (-1)) 2 (nI (m + 1))) (m' := m + 1) (ch := m) (fun _ => nI m) (nI m) h (stOk_make h.1.1 e.2.2 (h.1.2.2.2.2.2 m (Nat.le_refl _) e.2.2).2.1) (dz_make h.2.2.2.2.2.1) (objOk_of (SM := zA SM 5 m (-1)) rfl rfl (objOk_ref h.1.2.1 (Or.inl rfl))) rfl (sR2_make e.2.2 h.1.2.2.2) AG_make e.2.2 (by omega) (fun o h1 h2 => by omega) rfl rfl rfl rfl rfl rfl rfl rfl (fun _ _ => rfl)
      (c_X7_object_y l E r rs rt rr rq rw rk rp rg S SQ SS ST SR SW SK SG SP xp nq m D G lm k h.1.1 hn (REL_k h) (by omega) e.2.2 (h.1.2.2.2.2.2 m (Nat.le_refl _) e.2.2).2.1)
      (c_X8_object_ok l E rm SM m nq (fun q => qEc q (c q)) lm k hm hmo (REL_QS h) h.1.2.1 (by omega) e.2.2)
  · exact two_id h0 (c_X7_object_n l E r rs rt rr rq rw rk rp rg S SQ SS ST SR SW SK SG SP xp nq m kd h.1.1 e) (mS (c_X8_object_no l E rm SM m kd hm hmo e) ⟨rfl, rfl, rfl, rfl, rfl, rfl, rfl, rfl, rfl, rfl, rfl, rfl, rfl, rfl, rfl, rfl, rfl⟩)
theorem t_put (h : RELx c SM) (o p : Int32) (v : Int64) : TwoI l E R rm .int yX7_put cX7_put 5 R7a yX8_put cX8_put 5 R8a [.int o, .int p, .long v] c SM := by
  obtain ⟨r, rs, rt, rr, rq, rw, rk, rp, rg⟩ := R
  obtain ⟨S, SQ, SS, ST, SR, SW, SK, SG, SP, xp, nq⟩ := c
  have h0 := h
  obtain ⟨m, D, G, lm, sx, c, h, h360⟩ := h
  have hm := h.1.1.1
  have hn := h.2.1.1
  have hn3 := h.2.1.2
  have hmo := h.1.2.2.1
  by_cases e : thB m (za SS 1) o = true ∧ 0 ≤ p ∧ p ≤ 2
  · obtain ⟨j, hj, rfl, ht⟩ := th_ex hm e.1
    obtain ⟨p, hp, rfl⟩ := rg_n (n := 2) (by decide) e.2
    have ht8 : ¬ za SM 2 j = 0 := fun z => ht ((h.1.2.2.2.1.2.2.2.2.1 j hj).mp z)
    exact two_chg (SS' := zB SS 5 (3 * j + p) v) (SM' := zB (zI SM 0 0) 4 (3 * j + p) v) (m' := m) (ch := j) (fun SK' => nI (dfN SK' nq)) _ h h.1.1 (dz_put h.2.2.2.2.2.1) (objOk_of rfl rfl h.1.2.1) hmo (sR2_put h.1.2.2.2) (AG_put (by omega)) (by omega) (Nat.le_refl _) (fun o h1 h2 => absurd h1 (by omega)) rfl rfl rfl rfl rfl rfl rfl rfl (fun _ e => congrArg nI e)
      (c_X7_put_y l E r rs rt rr rq rw rk rp rg S SQ SS ST SR SW SK SG SP xp nq m D G lm j p v h.1.1 hn (REL_k h) hj ht (by omega))
      (c_X8_put_ok l E rm SM m nq (fun q => qEc q (c q)) lm j p v hm hmo (REL_QS h) h.1.2.1 hj ht8 (by omega))
  · exact two_id h0 (c_X7_put_n l E r rs rt rr rq rw rk rp rg S SQ SS ST SR SW SK SG SP xp nq m o p v h.1.1 e) (mS (c_X8_put_no l E rm SM m o p v hm hmo (by rw [A_th h]; exact e)) ⟨rfl, rfl, rfl, rfl, rfl, rfl, rfl, rfl, rfl, rfl, rfl, rfl, rfl, rfl, rfl, rfl, rfl⟩)
theorem t_refer (h : RELx c SM) (o t : Int32) : TwoI l E R rm .int yX7_refer cX7_refer 3 R7a yX8_refer cX8_refer 3 R8a [.int o, .int t] c SM := by
  obtain ⟨r, rs, rt, rr, rq, rw, rk, rp, rg⟩ := R
  obtain ⟨S, SQ, SS, ST, SR, SW, SK, SG, SP, xp, nq⟩ := c
  have h0 := h
  obtain ⟨m, D, G, lm, sx, c, h, h360⟩ := h
  have hm := h.1.1.1
  have hn := h.2.1.1
  have hn3 := h.2.1.2
  have hmo := h.1.2.2.1
  by_cases e : thB m (za SS 1) o = true ∧ (t = -1 ∨ thB m (za SS 1) t = true)
  · obtain ⟨j, hj, rfl, ht⟩ := th_ex hm e.1
    have ht8 : ¬ za SM 2 j = 0 := fun z => ht ((h.1.2.2.2.1.2.2.2.2.1 j hj).mp z)
    rcases e.2 with rfl | e2
    · exact two_chg (SS' := zA SS 3 j (-1)) (SM' := zA (zI SM 0 0) 5 j (-1)) (m' := m) (ch := j) (fun SK' => nI (dfN SK' nq)) _ h (stOk_ref h.1.1 (Or.inl rfl)) (dz_ref h.2.2.2.2.2.1) (objOk_ref (objOk_of rfl rfl h.1.2.1) (Or.inl rfl)) hmo (sR2_ref h.1.2.2.2 hm (Or.inl rfl)) AG_ref (by omega) (Nat.le_refl _) (fun o h1 h2 => absurd h1 (by omega)) rfl rfl rfl rfl rfl rfl rfl rfl (fun _ e => congrArg nI e)
        (c_X7_refer_n l E r rs rt rr rq rw rk rp rg S SQ SS ST SR SW SK SG SP xp nq m D G lm j h.1.1 hn (REL_k h) hj ht)
        (c_X8_refer_n l E rm SM m nq (fun q => qEc q (c q)) lm j hm hmo (REL_QS h) h.1.2.1 hj ht8)
    · obtain ⟨t, htm, rfl, htt⟩ := th_ex hm e2
      have htt8 : ¬ za SM 2 t = 0 := fun z => htt ((h.1.2.2.2.1.2.2.2.2.1 t htm).mp z)
      exact two_chg (SS' := zA SS 3 j (nI t)) (SM' := zA (zI SM 0 0) 5 j (nI t)) (m' := m) (ch := j) (fun SK' => nI (dfN SK' nq)) _ h (stOk_ref h.1.1 (Or.inr ⟨t, htm, htt, rfl⟩)) (dz_ref h.2.2.2.2.2.1) (objOk_ref (objOk_of rfl rfl h.1.2.1) (Or.inr ⟨t, by omega, rfl⟩)) hmo (sR2_ref h.1.2.2.2 hm (Or.inr ⟨t, htm, htt, rfl⟩)) AG_ref (by omega) (Nat.le_refl _) (fun o h1 h2 => absurd h1 (by omega)) rfl rfl rfl rfl rfl rfl rfl rfl (fun _ e => congrArg nI e)
        (c_X7_refer_s l E r rs rt rr rq rw rk rp rg S SQ SS ST SR SW SK SG SP xp nq m D G lm j t h.1.1 hn (REL_k h) hj ht htm htt)
        (c_X8_refer_s l E rm SM m nq (fun q => qEc q (c q)) lm j t hm hmo (REL_QS h) h.1.2.1 hj ht8 htm htt8)
  · exact two_id h0 (c_X7_refer_no l E r rs rt rr rq rw rk rp rg S SQ SS ST SR SW SK SG SP xp nq m o t h.1.1 e) (mS (c_X8_refer_no l E rm SM m o t hm hmo (by rw [A_th h, A_th h]; exact e)) ⟨rfl, rfl, rfl, rfl, rfl, rfl, rfl, rfl, rfl, rfl, rfl, rfl, rfl, rfl, rfl, rfl, rfl⟩)
theorem t_row (h : RELx c SM) (o n : Int32) : TwoI l E R rm .int yX7_row cX7_row 3 R7a yX8_row cX8_row 4 R8a [.int o, .int n] c SM := by
  obtain ⟨r, rs, rt, rr, rq, rw, rk, rp, rg⟩ := R
  obtain ⟨S, SQ, SS, ST, SR, SW, SK, SG, SP, xp, nq⟩ := c
  have h0 := h
  obtain ⟨m, D, G, lm, sx, c, h, h360⟩ := h
  have hm := h.1.1.1
  have hn := h.2.1.1
  have hn3 := h.2.1.2
  have hmo := h.1.2.2.1
  by_cases e : thB m (za SS 1) o = true ∧ 0 ≤ n ∧ n ≤ 8
  · obtain ⟨j, hj, rfl, ht⟩ := th_ex hm e.1
    obtain ⟨k, hk, rfl⟩ := rg_n (n := 8) (by decide) e.2
    have ht8 : ¬ za SM 2 j = 0 := fun z => ht ((h.1.2.2.2.1.2.2.2.2.1 j hj).mp z)
    exact two_chg (SS' := zA (zBw SS 6 (clrP (zb SS 6) j k 8)) 4 j (nI k)) (SM' := zA (zBw (zI SM 0 0) 7 (clrP (zb SM 7) j k 8)) 6 j (nI k)) (m' := m) (ch := j) (fun SK' => nI (dfN SK' nq)) _ h (stOk_len h.1.1 hk) (dz_row h.2.2.2.2.2.1 ht) (objOk_of (SM := zA SM 6 j (nI k)) rfl rfl (objOk_len h.1.2.1 hk)) hmo (sR2_row h.1.2.2.2 hj) AG_row (by omega) (Nat.le_refl _) (fun o h1 h2 => absurd h1 (by omega)) rfl rfl rfl rfl rfl rfl rfl rfl (fun _ e => congrArg nI e)
      (c_X7_row_y l E r rs rt rr rq rw rk rp rg S SQ SS ST SR SW SK SG SP xp nq m D G lm j k h.1.1 hn (REL_k h) hj ht hk)
      (c_X8_row_ok l E rm SM m nq (fun q => qEc q (c q)) lm j k hm hmo (REL_QS h) h.1.2.1 hj ht8 hk)
  · exact two_id h0 (c_X7_row_n l E r rs rt rr rq rw rk rp rg S SQ SS ST SR SW SK SG SP xp nq m o n h.1.1 e) (mS (c_X8_row_no l E rm SM m o n hm hmo (by rw [A_th h]; exact e)) ⟨rfl, rfl, rfl, rfl, rfl, rfl, rfl, rfl, rfl, rfl, rfl, rfl, rfl, rfl, rfl, rfl, rfl⟩)
theorem t_item (h : RELx c SM) (o i : Int32) (v : Int64) : TwoI l E R rm .int yX7_item cX7_item 5 R7a yX8_item cX8_item 5 R8a [.int o, .int i, .long v] c SM := by
  obtain ⟨r, rs, rt, rr, rq, rw, rk, rp, rg⟩ := R
  obtain ⟨S, SQ, SS, ST, SR, SW, SK, SG, SP, xp, nq⟩ := c
  have h0 := h
  obtain ⟨m, D, G, lm, sx, c, h, h360⟩ := h
  have hm := h.1.1.1
  have hn := h.2.1.1
  have hn3 := h.2.1.2
  have hmo := h.1.2.2.1
  by_cases e : thB m (za SS 1) o = true
  · obtain ⟨j, hj, rfl, ht⟩ := th_ex hm e
    have ht8 : ¬ za SM 2 j = 0 := fun z => ht ((h.1.2.2.2.1.2.2.2.2.1 j hj).mp z)
    obtain ⟨ln, hln, el⟩ := h.1.2.1.2 j (by omega)
    have es : za SS 4 j = nI ln := by rw [← h.1.2.2.2.1.2.1 j hj ht]; exact el
    by_cases e2 : 0 ≤ i ∧ i ≤ nI ln - 1
    · obtain ⟨i, hi, rfl⟩ := wi_ix' (by omega) e2
      exact two_chg (SS' := zB SS 6 (8 * j + i) v) (SM' := zB (zI SM 0 0) 7 (8 * j + i) v) (m' := m) (ch := j) (fun SK' => nI (dfN SK' nq)) _ h h.1.1 (dz_item h.2.2.2.2.2.1) (objOk_of rfl rfl h.1.2.1) hmo (sR2_item h.1.2.2.2) (AG_item (by omega)) (by omega) (Nat.le_refl _) (fun o h1 h2 => absurd h1 (by omega)) rfl rfl rfl rfl rfl rfl rfl rfl (fun _ e => congrArg nI e)
        (c_X7_item_y l E r rs rt rr rq rw rk rp rg S SQ SS ST SR SW SK SG SP xp nq m D G lm j i v h.1.1 hn (REL_k h) hj ht (by rw [es]; exact it_ok ln (by omega) i hi) (by omega))
        (c_X8_item_ok l E rm SM m nq (fun q => qEc q (c q)) lm j i ln v hm hmo (REL_QS h) h.1.2.1 hj ht8 el hln hi)
    · exact two_id h0 (c_X7_item_n l E r rs rt rr rq rw rk rp rg S SQ SS ST SR SW SK SG SP xp nq m (nI j) i v h.1.1 (by rw [hasB_nI (by omega) hj, es]; exact it_no hln e2)) (mS (c_X8_item_i l E rm SM m j i v hm hmo hj (by rw [el]; exact e2)) ⟨rfl, rfl, rfl, rfl, rfl, rfl, rfl, rfl, rfl, rfl, rfl, rfl, rfl, rfl, rfl, rfl, rfl⟩)
  · have e8 : ¬ thB m (za SM 2) o = true := by rw [A_th h]; exact e
    exact two_id h0 (c_X7_item_n l E r rs rt rr rq rw rk rp rg S SQ SS ST SR SW SK SG SP xp nq m o i v h.1.1 (A_noitem h e8)) (mS (c_X8_item_t l E rm SM m o i v hm hmo e8) ⟨rfl, rfl, rfl, rfl, rfl, rfl, rfl, rfl, rfl, rfl, rfl, rfl, rfl, rfl, rfl, rfl, rfl⟩)
theorem t_drop (h : RELx c SM) (o : Int32) : TwoI l E R rm .int yX7_drop cX7_drop 2 R7a yX8_drop cX8_drop 2 R8a [.int o] c SM := by
  obtain ⟨r, rs, rt, rr, rq, rw, rk, rp, rg⟩ := R
  obtain ⟨S, SQ, SS, ST, SR, SW, SK, SG, SP, xp, nq⟩ := c
  have h0 := h
  obtain ⟨m, D, G, lm, sx, c, h, h360⟩ := h
  have hm := h.1.1.1
  have hn := h.2.1.1
  have hn3 := h.2.1.2
  have hmo := h.1.2.2.1
  by_cases e : thB m (za SS 1) o = true
  · obtain ⟨j, hj, rfl, ht⟩ := th_ex hm e
    have ht8 : ¬ za SM 2 j = 0 := fun z => ht ((h.1.2.2.2.1.2.2.2.2.1 j hj).mp z)
    exact two_chg (SS' := zAw (zA (zA SS 1 j 0) 4 j 0) 3 (unref (za SS 3) j m)) (SM' := zA (zI SM 0 0) 2 j 0) (m' := m) (ch := j) (fun SK' => nI (dfN SK' nq)) _ h (stOk_drop h.1.1 hj) (dz_drop h.2.2.2.2.2.1) (objOk_of rfl rfl h.1.2.1) hmo (sR2_drop h.1.1 h.1.2.2.2 hj) (AG_drop (by omega)) (by omega) (Nat.le_refl _) (fun o h1 h2 => absurd h1 (by omega)) rfl rfl rfl rfl rfl rfl rfl rfl (fun _ e => congrArg nI e)
      (c_X7_drop_y l E r rs rt rr rq rw rk rp rg S SQ SS ST SR SW SK SG SP xp nq m D G lm j h.1.1 hn (REL_k h) hj ht)
      (c_X8_drop_ok l E rm SM m nq (fun q => qEc q (c q)) lm j hm hmo (REL_QS h) h.1.2.1 hj ht8)
  · exact two_id h0 (c_X7_drop_n l E r rs rt rr rq rw rk rp rg S SQ SS ST SR SW SK SG SP xp nq m o h.1.1 e) (mS (c_X8_drop_no l E rm SM m o hm hmo (by rw [A_th h]; exact e)) ⟨rfl, rfl, rfl, rfl, rfl, rfl, rfl, rfl, rfl, rfl, rfl, rfl, rfl, rfl, rfl, rfl, rfl⟩)
theorem t_type (h : RELx c SM) (w : Int64) (n : Int32) : TwoI l E R rm .boolean yX7_type cX7_type 4 R7b yX8_type cX8_type 6 R80 [.long w, .int n] c SM := by
  obtain ⟨r, rs, rt, rr, rq, rw, rk, rp, rg⟩ := R
  obtain ⟨S, SQ, SS, ST, SR, SW, SK, SG, SP, xp, nq⟩ := c
  have h0 := h
  obtain ⟨m, D, G, lm, sx, c, h, h360⟩ := h
  have hm := h.1.1.1
  have hn := h.2.1.1
  have hn3 := h.2.1.2
  have hmo := h.1.2.2.1
  obtain ⟨tp, t, h1, h2⟩ := h.2.2.2.2.2.2
  have ht8 := h1.2.1
  by_cases e : 1 ≤ n ∧ n ≤ 8 ∧ nI tp + n ≤ 80
  · obtain ⟨e1, e2, e3⟩ := e
    have n0 : ¬ n < 0 := fun z => by
      rw [Int32.le_iff_toInt_le] at e1
      rw [Int32.lt_iff_toInt_lt] at z
      have q1 : (1 : Int32).toInt = 1 := by decide
      have q0 : (0 : Int32).toInt = 0 := by decide
      omega
    obtain ⟨k, hk, rfl⟩ := nI_of2 (n := 8) (by decide) n0 e2
    have hk1 : 1 ≤ k := gI (a := 1) (by omega) (by omega) e1
    rw [nI_add] at e3
    have hk8 : tp + k ≤ 80 := gI (b := 80) (by omega) (by omega) e3
    by_cases ha : ∀ j : Nat, j < k → okB w j = true
    · refine ⟨bI true, fun c' => ∃ tape' : Nat → Int32, c' = (S, SQ, SS, zI (zAw ST 1 tape') 0 (nI (tp + k)), SR, SW, SK, SG, SP, xp, nq) ∧ (∀ k : Nat, k < tp → tape' k = za ST 1 k) ∧ ∀ i : Nat, i < k → tape' (tp + i) = byI w (k - 1 - i), fun S' => ∃ tape' : Nat → Int32, S' = mty (zI SM 0 0) (nI (tp + k)) tape' ∧ (∀ k : Nat, k < tp → tape' k = za SM 1 k) ∧ ∀ i : Nat, i < k → tape' (tp + i) = byI w (k - 1 - i), (c_X7_type_y l E r rs rt rr rq rw rk rp rg S SQ SS ST SR SW SK SG SP xp nq tp w k h2.1 ht8 hk1 hk hk8 ha).mono ?_, (c_X8_type_y l E rm SM tp w k h1.1 ht8 hk1 hk hk8 ha).mono ?_, ?_⟩
      · rintro v w ⟨tape', e1, e2, e3, e4⟩
        exact ⟨e1, (S, SQ, SS, zI (zAw ST 1 tape') 0 (nI (tp + k)), SR, SW, SK, SG, SP, xp, nq), e2, tape', rfl, e3, e4⟩
      · rintro v w ⟨tape', e1, e2, e3, e4⟩
        exact ⟨e1, _, e2, tape', rfl, e3, e4⟩
      · rintro c' S' ⟨tc, rfl, c1, c2⟩ ⟨tm, rfl, d1, d2⟩
        exact ⟨m, D, G, lm, sx, c, REL_tp h (tp_ty h1 h2 hk8 ha rfl rfl d1 d2 c1 c2) rfl rfl rfl rfl rfl rfl rfl rfl rfl rfl rfl rfl rfl rfl rfl, h360⟩
    · have hb : ∃ j : Nat, j < k ∧ okB w j = false := Classical.byContradiction (fun z => ha (fun j hj => Classical.byContradiction (fun y => z ⟨j, hj, Bool.eq_false_iff.mpr y⟩)))
      refine ⟨bI false, fun c' => c' = (S, SQ, SS, zI ST 0 (nI tp), SR, SW, SK, SG, SP, xp, nq), fun S' => S' = mty (zI SM 0 0) (nI tp) (za SM 1), (c_X7_type_b l E r rs rt rr rq rw rk rp rg S SQ SS ST SR SW SK SG SP xp nq tp w k h2.1 ht8 hk1 hk hk8 hb).mono (fun _ _ hp => ⟨hp.1, (S, SQ, SS, zI ST 0 (nI tp), SR, SW, SK, SG, SP, xp, nq), hp.2, rfl⟩), (c_X8_type_b l E rm SM tp w k h1.1 ht8 hk1 hk hk8 hb).mono (fun _ _ hp => ⟨hp.1, _, hp.2, rfl⟩), ?_⟩
      rintro c' S' rfl rfl
      exact ⟨m, D, G, lm, sx, c, REL_tp h ⟨tp, t, ⟨rfl, h1.2⟩, ⟨rfl, h2.2⟩⟩ rfl rfl rfl rfl rfl rfl rfl rfl rfl rfl rfl rfl rfl rfl rfl, h360⟩
  · exact two_id h0 (c_X7_type_n l E r rs rt rr rq rw rk rp rg S SQ SS ST SR SW SK SG SP xp nq tp w n h2.1 e) (mS (c_X8_type_n l E rm SM tp w n h1.1 e) ⟨rfl, rfl, rfl, rfl, rfl, rfl, rfl, rfl, rfl, rfl, rfl, rfl, rfl, rfl, rfl, rfl, rfl⟩)
theorem t_size (h : RELx c SM) (q w : Int32) : TwoI l E R rm .int yX7_size cX7_size 4 R7b yX8_size cX8_size 3 R8b [.int q, .int w] c SM := by
  obtain ⟨r, rs, rt, rr, rq, rw, rk, rp, rg⟩ := R
  obtain ⟨S, SQ, SS, ST, SR, SW, SK, SG, SP, xp, nq⟩ := c
  have h0 := h
  obtain ⟨m, D, G, lm, sx, c, h, h360⟩ := h
  have hm := h.1.1.1
  have hn := h.2.1.1
  have hn3 := h.2.1.2
  have hmo := h.1.2.2.1
  by_cases e : 0 ≤ q ∧ q ≤ nI nq - 1
  · obtain ⟨q, hq, rfl⟩ := wi_ix' (by omega) e
    obtain ⟨k1, k2, k3, k4, k5, k6, k7, k8, k9⟩ := h.2.2.1 q hq
    have h8 := c_X8_size_ok l E rm SM m nq q (qEc q (c q)) (lm q) w hm hmo hn hn3 hq k6 h.1.2.1 k7 k8
    have go : ∀ {a : Int32}, Ct l yX7_size cX7_size 4 (some .int) R7b E (cW E (r, rs, rt, rr, rq, rw, rk, rp, rg) (S, SQ, SS, ST, SR, SW, SK, SG, SP, xp, nq)) [.ref (r 0), .int (nI q), .int w] (fun v_ w_ => v_ = some (.int a) ∧ w_ = cW E (r, rs, rt, rr, rq, rw, rk, rp, rg) (S, SQ, SS, ST, SR, SW, SK, SG, SP, xp, nq)) → (if w = 0 then nI (shN (lm q) (fL SM q (qEc q (c q)) m).length) else if w = 1 then nI (fL SM q (qEc q (c q)) m).length else if w = 2 then nI (gL (fL SM q (qEc q (c q)) m)).length else -1) = a → TwoI l E (r, rs, rt, rr, rq, rw, rk, rp, rg) rm .int yX7_size cX7_size 4 R7b yX8_size cX8_size 3 R8b [.int (nI q), .int w] (S, SQ, SS, ST, SR, SW, SK, SG, SP, xp, nq) SM := fun h7 ea => by
      rw [ea] at h8
      exact two_id h0 h7 (h8.mono (fun v w hp => by
        obtain ⟨hh, ab, f, hg, md, row, key, grp, sm, va, mn, lo, hi, e1, e2⟩ := hp
        exact ⟨e1, _, e2, ⟨rfl, rfl, rfl, rfl, rfl, rfl, rfl, rfl, rfl, rfl, rfl, rfl, rfl, rfl, rfl, rfl, rfl⟩⟩))
    rcases tw3 w with rfl | rfl | rfl | hw
    · exact go (c_X7_size_0 l E r rs rt rr rq rw rk rp rg S SQ SS ST SR SW SK SG SP xp nq m D G lm q h.1.1 hn (REL_k h) hq) (by rw [if_pos rfl, A_shown h hq])
    · exact go (c_X7_size_1 l E r rs rt rr rq rw rk rp rg S SQ SS ST SR SW SK SG SP xp nq m D G lm q h.1.1 hn (REL_k h) hq) (by rw [if_neg (by decide), if_pos rfl, A_in h hq])
    · exact go (c_X7_size_2 l E r rs rt rr rq rw rk rp rg S SQ SS ST SR SW SK SG SP xp nq m D G lm q h.1.1 hn (REL_k h) hq) (by rw [if_neg (by decide), if_neg (by decide), if_pos rfl, A_fL h hq])
    · have ho := tw_out hw
      exact go (c_X7_size_x l E r rs rt rr rq rw rk rp rg S SQ SS ST SR SW SK SG SP xp nq m D G lm q w h.1.1 hn (REL_k h) hq hw) (by rw [if_neg ho.1, if_neg ho.2.1, if_neg ho.2.2])
  · exact two_id h0 (c_X7_size_n l E r rs rt rr rq rw rk rp rg S SQ SS ST SR SW SK SG SP xp nq q w hn (wi_no' (by omega) e)) (mS (c_X8_size_q l E rm SM m nq q w hm hn3 e) ⟨rfl, rfl, rfl, rfl, rfl, rfl, rfl, rfl, rfl, rfl, rfl, rfl, rfl, rfl, rfl, rfl, rfl⟩)
theorem t_got (h : RELx c SM) (q k : Int32) : TwoI l E R rm .int yX7_got cX7_got 3 R7b yX8_got cX8_got 3 R8b [.int q, .int k] c SM := by
  obtain ⟨r, rs, rt, rr, rq, rw, rk, rp, rg⟩ := R
  obtain ⟨S, SQ, SS, ST, SR, SW, SK, SG, SP, xp, nq⟩ := c
  have h0 := h
  obtain ⟨m, D, G, lm, sx, c, h, h360⟩ := h
  have hm := h.1.1.1
  have hn := h.2.1.1
  have hn3 := h.2.1.2
  have hmo := h.1.2.2.1
  by_cases e : 0 ≤ q ∧ q ≤ nI nq - 1
  · obtain ⟨q, hq, rfl⟩ := wi_ix' (by omega) e
    have k6 := (h.2.2.1 q hq).2.2.2.2.2.1
    have hl := fL_len SM q (qEc q (c q)) m
    by_cases e2 : 0 ≤ k ∧ k ≤ nI (fL SM q (qEc q (c q)) m).length - 1
    · obtain ⟨k, hk, rfl⟩ := wi_ix' (by omega) e2
      have hx := List.getElem?_eq_getElem hk
      have h8 := c_X8_got_s l E rm SM m nq q (qEc q (c q)) k _ hm hmo hn hn3 hq k6 h.1.2.1 hx
      exact two_id h0 (c_X7_got_y l E r rs rt rr rq rw rk rp rg S SQ SS ST SR SW SK SG SP xp nq m D G lm q k _ h.1.1 hn (REL_k h) hq (A_got h hq hx).1) (h8.mono (fun v w hp => by
        obtain ⟨hh, ab, f, hg, md, row, key, grp, sm, e1, e2, -⟩ := hp
        exact ⟨e1, _, e2, ⟨rfl, rfl, rfl, rfl, rfl, rfl, rfl, rfl, rfl, rfl, rfl, rfl, rfl, rfl, rfl, rfl, rfl⟩⟩))
    · have h8 := c_X8_got_n l E rm SM m nq q (qEc q (c q)) k hm hmo hn hn3 hq k6 h.1.2.1 e2
      exact two_id h0 (c_X7_got_k l E r rs rt rr rq rw rk rp rg S SQ SS ST SR SW SK SG SP xp nq m D G lm q k h.1.1 hn (REL_k h) hq (by rw [A_in h hq]; exact wi_no' (by omega) e2)) (h8.mono (fun v w hp => by
        obtain ⟨hh, ab, f, hg, md, row, key, grp, sm, e1, e2, -⟩ := hp
        exact ⟨e1, _, e2, ⟨rfl, rfl, rfl, rfl, rfl, rfl, rfl, rfl, rfl, rfl, rfl, rfl, rfl, rfl, rfl, rfl, rfl⟩⟩))
  · exact two_id h0 (c_X7_got_n l E r rs rt rr rq rw rk rp rg S SQ SS ST SR SW SK SG SP xp nq q k hn (wi_no' (by omega) e)) (mS (c_X8_got_q l E rm SM m nq q k hm hn3 e) ⟨rfl, rfl, rfl, rfl, rfl, rfl, rfl, rfl, rfl, rfl, rfl, rfl, rfl, rfl, rfl, rfl, rfl⟩)
theorem t_uses (h : RELx c SM) (q o : Int32) : TwoI l E R rm .int yX7_uses cX7_uses 3 R7b yX8_uses cX8_uses 5 R8b [.int q, .int o] c SM := by
  obtain ⟨r, rs, rt, rr, rq, rw, rk, rp, rg⟩ := R
  obtain ⟨S, SQ, SS, ST, SR, SW, SK, SG, SP, xp, nq⟩ := c
  have h0 := h
  obtain ⟨m, D, G, lm, sx, c, h, h360⟩ := h
  have hm := h.1.1.1
  have hn := h.2.1.1
  have hn3 := h.2.1.2
  have hmo := h.1.2.2.1
  by_cases e : 0 ≤ q ∧ q ≤ nI nq - 1
  · obtain ⟨q, hq, rfl⟩ := wi_ix' (by omega) e
    have k6 := (h.2.2.1 q hq).2.2.2.2.2.1
    by_cases e2 : thB m (za SS 1) o = true
    · obtain ⟨j, hj, rfl, ht⟩ := th_ex hm e2
      have ht8 : ¬ za SM 2 j = 0 := fun z => ht ((h.1.2.2.2.1.2.2.2.2.1 j hj).mp z)
      have h7 := c_X7_uses_y l E r rs rt rr rq rw rk rp rg S SQ SS ST SR SW SK SG SP xp nq m D G lm q j h.1.1 hn (REL_k h) hq hj ht
      rw [A_uses h hq (by omega)] at h7
      exact two_id h0 h7 ((c_X8_uses_ok l E rm SM m nq q (qEc q (c q)) j hm hmo hn hn3 hq k6 h.1.2.1 hj ht8).mono (fun v w hp => by
        obtain ⟨hh, ab, f, hg, md, e1, e2⟩ := hp
        exact ⟨e1, _, e2, ⟨rfl, rfl, rfl, rfl, rfl, rfl, rfl, rfl, rfl, rfl, rfl, rfl, rfl, rfl, rfl, rfl, rfl⟩⟩))
    · exact two_id h0 (c_X7_uses_o l E r rs rt rr rq rw rk rp rg S SQ SS ST SR SW SK SG SP xp nq m D G lm q o h.1.1 hn (REL_k h) hq e2) (mS (c_X8_uses_n l E rm SM m nq q (qEc q (c q)) o hm hmo hn hn3 hq k6 h.1.2.1 (by rw [A_th h]; exact e2)) ⟨rfl, rfl, rfl, rfl, rfl, rfl, rfl, rfl, rfl, rfl, rfl, rfl, rfl, rfl, rfl, rfl, rfl⟩)
  · exact two_id h0 (c_X7_uses_n l E r rs rt rr rq rw rk rp rg S SQ SS ST SR SW SK SG SP xp nq q o hn (wi_no' (by omega) e)) (mS (c_X8_uses_q l E rm SM m nq q o hm hn3 e) ⟨rfl, rfl, rfl, rfl, rfl, rfl, rfl, rfl, rfl, rfl, rfl, rfl, rfl, rfl, rfl, rfl, rfl⟩)
theorem t_differ (h : RELx c SM) (k w : Int32) : TwoI l E R rm .int yX7_differ cX7_differ 6 R7c yX8_differ cX8_differ 3 R8b [.int k, .int w] c SM := by
  obtain ⟨r, rs, rt, rr, rq, rw, rk, rp, rg⟩ := R
  obtain ⟨S, SQ, SS, ST, SR, SW, SK, SG, SP, xp, nq⟩ := c
  have h0 := h
  obtain ⟨m, D, G, lm, sx, c, h, h360⟩ := h
  have hm := h.1.1.1
  have hn := h.2.1.1
  have hn3 := h.2.1.2
  have hmo := h.1.2.2.1
  obtain ⟨hd, hdR⟩ := h.2.2.2.2.1
  by_cases e : (0 ≤ k ∧ k ≤ nI (dLs SK nq).length - 1) ∧ 0 ≤ w ∧ w ≤ 2
  · obtain ⟨k, hk, rfl⟩ := wi_ix' (by omega) e.1
    have hx := List.getElem?_eq_getElem hk
    have h7 := c_X7_differ_y l E r rs rt rr rq rw rk rp rg S SQ SS ST SR SW SK SG SP xp nq m D G lm k w hn (by omega)
    rw [A_differ h, hx] at h7
    rcases tw3 w with rfl | rfl | rfl | hw
    · exact two_id h0 h7 (mS (c_X8_differ_0 l E rm SM _ k _ hd hdR h360 hx) ⟨rfl, rfl, rfl, rfl, rfl, rfl, rfl, rfl, rfl, rfl, rfl, rfl, rfl, rfl, rfl, rfl, rfl⟩)
    · exact two_id h0 h7 (mS (c_X8_differ_1 l E rm SM _ k _ hd hdR h360 hx) ⟨rfl, rfl, rfl, rfl, rfl, rfl, rfl, rfl, rfl, rfl, rfl, rfl, rfl, rfl, rfl, rfl, rfl⟩)
    · exact two_id h0 h7 (mS (c_X8_differ_2 l E rm SM _ k _ hd hdR h360 hx) ⟨rfl, rfl, rfl, rfl, rfl, rfl, rfl, rfl, rfl, rfl, rfl, rfl, rfl, rfl, rfl, rfl, rfl⟩)
    · exact absurd e.2 (out_w (n := 2) (by decide) hw)
  · have h8 := c_X8_differ_n l E rm SM _ k w hd hdR h360 e
    by_cases e0 : k < 0
    · exact two_id h0 (c_X7_differ_n l E r rs rt rr rq rw rk rp rg S SQ SS ST SR SW SK SG SP xp nq k w e0) (mS h8 ⟨rfl, rfl, rfl, rfl, rfl, rfl, rfl, rfl, rfl, rfl, rfl, rfl, rfl, rfl, rfl, rfl, rfl⟩)
    · obtain ⟨k, hk, rfl⟩ := nI_of e0
      have h7 := c_X7_differ_y l E r rs rt rr rq rw rk rp rg S SQ SS ST SR SW SK SG SP xp nq m D G lm k w hn hk
      have ea : dfR_ SK nq k w = -1 := by
        rw [A_differ h]
        cases hx : (dLs SK nq)[k]? with
        | none => rfl
        | some x =>
          have hl := (List.getElem?_eq_some_iff.mp hx).1
          show tlX x w = -1
          have ho : ¬ (0 ≤ w ∧ w ≤ 2) := fun z => e ⟨⟨nI_pos' hk, by
            obtain ⟨N, hN⟩ : ∃ N, (dLs SK nq).length = N + 1 := ⟨(dLs SK nq).length - 1, by omega⟩
            rw [hN, nI_pred]; exact nI_le (by omega) (by omega)⟩, z⟩
          unfold tlX
          rw [if_neg (fun z => ho (by rw [z]; decide)), if_neg (fun z => ho (by rw [z]; decide)), if_neg (fun z => ho (by rw [z]; decide))]
      rw [ea] at h7
      exact two_id h0 h7 (mS h8 ⟨rfl, rfl, rfl, rfl, rfl, rfl, rfl, rfl, rfl, rfl, rfl, rfl, rfl, rfl, rfl, rfl, rfl⟩)
theorem t_query (hl : l.stackTraces = false) (h : RELx c SM) : TwoX Value.int l E R rm .int xClI yX7_query cX7_query 3 R7q yX8_query cX8_query 2 R8q [] c SM := by
  obtain ⟨r, rs, rt, rr, rq, rw, rk, rp, rg⟩ := R
  obtain ⟨S, SQ, SS, ST, SR, SW, SK, SG, SP, xp, nq⟩ := c
  have h0 := h
  obtain ⟨m, D, G, lm, sx, c, h, h360⟩ := h
  have hm := h.1.1.1
  have hn := h.2.1.1
  have hn3 := h.2.1.2
  have hmo := h.1.2.2.1
  obtain ⟨tp, t, h1, h2⟩ := h.2.2.2.2.2.2
  by_cases h6 : nq < 6
  · obtain ⟨Q, hQ, hQb⟩ := rq_e h1.2.2.2.1 h1.2.1
    have htp := h1.2.1
    have hz := h.2.2.2.1 nq (Nat.le_refl _) h6
    refine Or.inl ?_
    cases hRb : Q.1 with
    | false =>
      refine ⟨-1 - nI Q.2.1, fun c' => ∃ SR5 SP5 : zS, c' = (S, SQ, SS, zI ST 0 0, SR5, SW, SK, SG, updS SP nq SP5, .ref (rp nq 0), nq), fun S' => ∃ (ac op : Int32) (cd' nm' of' fr' en' : Nat → Int32), S' = mrq (zI (zI SM 0 0) 1 0) (nI Q.2.1) ac op cd' nm' of' fr' en' ∧ qbl nq (za SM 11) (za SM 12) (za SM 8) (za SM 9) (za SM 10) cd' nm' of' fr' en', (c_X7_query_n l E r rs rt rr rq rw rk rp rg S SQ SS ST SR SW SK SG SP xp nq m D G lm tp t Q h.1.1 hn (REL_k h) h6 h2 hQ hRb (by omega)).mono ?_, (c_X8_query_n l E rm SM nq tp t Q h1 h6 hn3 hQ hRb).mono ?_, ?_⟩
      · rintro v w ⟨SR5, SP5, e1, e2⟩
        exact ⟨e1, (S, SQ, SS, zI ST 0 0, SR5, SW, SK, SG, updS SP nq SP5, .ref (rp nq 0), nq), e2, SR5, SP5, rfl⟩
      · rintro v w ⟨ac, op, cd', nm', of', fr', en', e1, e2, e3⟩
        exact ⟨e1, _, e2, ac, op, cd', nm', of', fr', en', rfl, e3⟩
      · rintro c' S' ⟨SR5, SP5, rfl⟩ ⟨ac, op, cd', nm', of', fr', en', rfl, e3⟩
        exact ⟨⟨m, D, G, lm, sx, c, REL_qn h e3 rfl rfl rfl rfl rfl rfl rfl rfl rfl rfl rfl rfl, h360⟩, rfl⟩
    | true =>
      refine ⟨nI nq, fun c' => ∃ (SR5 SP5 SK5 SG5 SW5 : zS) (G5 : List zNd), c' = (S, SQ, SS, zI ST 0 0, SR5, SW5, updS SK nq SK5, updS SG nq SG5, updS SP nq SP5, .ref (rp nq 0), nq + 1) ∧ (kS SK5 SG5 SP5 (fwD (fun _ => true) (fun _ => none) (rowR SS SP5 G5) m) G5 Q.2.2.1) ∧ (zb SK5 1 = fwH (fun _ => true) (zb (SK nq) 1) (rowR SS SP5 G5) m) ∧ (zl SK5 0 = shM (fwD (fun _ => true) (fun _ => none) (rowR SS SP5 G5) m) Q.2.2.1 ∧ zl SK5 1 = zl (SK nq) 1 ∧ zl SK5 2 = zl (SK nq) 2) ∧ cdone t Q G5 (zi SP5 1) (zi SP5 2) (zi SP5 3) (zi SP5 4) (zi SP5 5) (zi SP5 6), fun S' => ∃ (ac op : Int32) (cd' nm' of' fr' en' : Nat → Int32), S' = mrq (zI (zI (zI SM 0 0) 1 0) 3 (nI (nq + 1))) (nI Q.2.1) ac op cd' nm' of' fr' en' ∧ qbl nq (za SM 11) (za SM 12) (za SM 8) (za SM 9) (za SM 10) cd' nm' of' fr' en' ∧ qdone t nq Q cd' nm' of' fr' en', (c_X7_query_y l E r rs rt rr rq rw rk rp rg S SQ SS ST SR SW SK SG SP xp nq m D G lm tp t Q h.1.1 hn (REL_k h) h6 h2 hQ hRb hz.1).mono ?_, (c_X8_query_y l E rm SM nq tp t Q h1 h6 hn3 hQ hRb).mono ?_, ?_⟩
      · rintro v w ⟨SR5, SP5, SK5, SG5, SW5, G5, e1, e2, e3⟩
        exact ⟨e1, (S, SQ, SS, zI ST 0 0, SR5, SW5, updS SK nq SK5, updS SG nq SG5, updS SP nq SP5, .ref (rp nq 0), nq + 1), e2, SR5, SP5, SK5, SG5, SW5, G5, rfl, e3⟩
      · rintro v w ⟨ac, op, cd', nm', of', fr', en', e1, e2, e3⟩
        exact ⟨e1, _, e2, ac, op, cd', nm', of', fr', en', rfl, e3⟩
      · rintro c' S' ⟨SR5, SP5, SK5, SG5, SW5, G5, rfl, f1, f2, f3, f4⟩ ⟨ac, op, cd', nm', of', fr', en', rfl, e3, e4⟩
        obtain ⟨c5, g⟩ := REL_qy (SM' := mrq (zI (zI (zI SM 0 0) 1 0) 3 (nI (nq + 1))) (nI Q.2.1) ac op cd' nm' of' fr' en') (ST' := zI ST 0 0) h h6 hQ hRb e3 e4 f1 f2 f3 f4 tp h1.2.2.2.1 h1.2.1 rfl rfl rfl rfl rfl rfl rfl rfl rfl rfl rfl rfl
        refine ⟨⟨m, _, _, _, _, _, g, ?_⟩, rfl⟩
        simp only [dLs]
        rw [dLs_ext (SK' := SK) nq (fun q hq => updS_ne (by omega)), updS_at, dq_0 (f3.2.1.trans hz.2.1) (f3.2.2.trans hz.2.2), List.append_nil]
        exact h360
  · obtain rfl : nq = 6 := by omega
    refine Or.inr ⟨(0 : Int32), (S, SQ, SS, zI ST 0 0, SR, SW, SK, SG, SP, xp, 6), fun S' => S' = zI (zI SM 1 0) 0 1, x_X7_query l hl E r rs rt rr rq rw rk rp rg S SQ SS ST SR SW SK SG SP xp 6 (by decide), (c_X8_query_6 l E rm SM hn3).mono (fun _ _ hp => ⟨hp.1, _, hp.2, rfl⟩), ?_⟩
    rintro S' rfl
    exact ⟨⟨m, D, G, lm, sx, c, REL_tp h ⟨0, _, tp_0 rfl rfl⟩ rfl rfl rfl rfl rfl rfl rfl rfl rfl rfl rfl rfl rfl rfl rfl, h360⟩, rfl⟩
theorem t_key (hl : l.stackTraces = false) (h : RELx c SM) (q k : Int32) : TwoX Value.long l E R rm .long xClN yX7_key cX7_key 4 R7c yX8_key cX8_key 3 R8b [.int q, .int k] c SM := by
  obtain ⟨r, rs, rt, rr, rq, rw, rk, rp, rg⟩ := R
  obtain ⟨S, SQ, SS, ST, SR, SW, SK, SG, SP, xp, nq⟩ := c
  have h0 := h
  obtain ⟨m, D, G, lm, sx, c, h, h360⟩ := h
  have hm := h.1.1.1
  have hn := h.2.1.1
  have hn3 := h.2.1.2
  have hmo := h.1.2.2.1
  by_cases e : 0 ≤ q ∧ q ≤ nI nq - 1
  · obtain ⟨q, hq, rfl⟩ := wi_ix' (by omega) e
    have k6 := (h.2.2.1 q hq).2.2.2.2.2.1
    have hl8 := fL_len SM q (qEc q (c q)) m
    by_cases e2 : 0 ≤ k ∧ k ≤ nI (fL SM q (qEc q (c q)) m).length - 1
    · obtain ⟨k, hk, rfl⟩ := wi_ix' (by omega) e2
      have hx := List.getElem?_eq_getElem hk
      have h8 := c_X8_key_s l E rm SM m nq q (qEc q (c q)) k _ hm hmo hn hn3 hq k6 h.1.2.1 hx
      have h7 := c_X7_key_y l E r rs rt rr rq rw rk rp rg S SQ SS ST SR SW SK SG SP xp nq m D G lm q k _ h.1.1 hn (REL_k h) hq (A_got h hq hx).1
      rw [(A_got h hq hx).2] at h7
      exact twoX_y h0 h7 (h8.mono (fun v w hp => by
        obtain ⟨hh, ab, f, hg, md, row, key, grp, sm, e1, e2, -⟩ := hp
        exact ⟨e1, _, e2, ⟨rfl, rfl, rfl, rfl, rfl, rfl, rfl, rfl, rfl, rfl, rfl, rfl, rfl, rfl, rfl, rfl, rfl⟩, rfl⟩))
    · have h8 := c_X8_key_n l E rm SM m nq q (qEc q (c q)) k hm hmo hn hn3 hq k6 h.1.2.1 e2
      exact twoX_x (a := (0 : Int64)) h0 (x_X7_key_k l hl E r rs rt rr rq rw rk rp rg S SQ SS ST SR SW SK SG SP xp nq m D G lm q k h.1.1 hn (REL_k h) hq (by rw [A_in h hq]; exact wi_no' (by omega) e2)) (h8.mono (fun v w hp => by
        obtain ⟨hh, ab, f, hg, md, row, key, grp, sm, e1, e2, -⟩ := hp
        exact ⟨e1, _, e2, ⟨rfl, rfl, rfl, rfl, rfl, rfl, rfl, rfl, rfl, rfl, rfl, rfl, rfl, rfl, rfl, rfl, rfl⟩, rfl⟩))
  · exact twoX_x (a := (0 : Int64)) h0 (x_X7_key_q l hl E r rs rt rr rq rw rk rp rg S SQ SS ST SR SW SK SG SP xp nq q k hn (wi_no' (by omega) e)) (mS (c_X8_key_q l E rm SM m nq q k hm hn3 e) ⟨⟨rfl, rfl, rfl, rfl, rfl, rfl, rfl, rfl, rfl, rfl, rfl, rfl, rfl, rfl, rfl, rfl, rfl⟩, rfl⟩)
theorem t_group (hl : l.stackTraces = false) (h : RELx c SM) (q k w : Int32) : TwoX Value.long l E R rm .long xClN yX7_group cX7_group 5 R7c yX8_group cX8_group 4 R8b [.int q, .int k, .int w] c SM := by
  obtain ⟨r, rs, rt, rr, rq, rw, rk, rp, rg⟩ := R
  obtain ⟨S, SQ, SS, ST, SR, SW, SK, SG, SP, xp, nq⟩ := c
  have h0 := h
  obtain ⟨m, D, G, lm, sx, c, h, h360⟩ := h
  have hm := h.1.1.1
  have hn := h.2.1.1
  have hn3 := h.2.1.2
  have hmo := h.1.2.2.1
  by_cases e : 0 ≤ q ∧ q ≤ nI nq - 1
  · obtain ⟨q, hq, rfl⟩ := wi_ix' (by omega) e
    have k6 := (h.2.2.1 q hq).2.2.2.2.2.1
    have hf := A_fL h hq
    have hl8 := fL_len SM q (qEc q (c q)) m
    have hl9 := gL_len (fL SM q (qEc q (c q)) m)
    by_cases e2 : 0 ≤ k ∧ k ≤ nI (gL (fL SM q (qEc q (c q)) m)).length - 1
    · obtain ⟨k, hk, rfl⟩ := wi_ix' (by omega) e2
      have hx := List.getElem?_eq_getElem hk
      generalize (gL (fL SM q (qEc q (c q)) m))[k] = x at hx
      have hy : (gL (fD (D q) 60))[k]? = some x := by rw [← hf]; exact hx
      have go : ∀ (w : Int32), 0 ≤ w ∧ w ≤ 3 → ∀ {a : Int64}, Ct l yX7_group cX7_group 5 (some .long) R7c E (cW E (r, rs, rt, rr, rq, rw, rk, rp, rg) (S, SQ, SS, ST, SR, SW, SK, SG, SP, xp, nq)) [.ref (r 0), .int (nI q), .int (nI k), .int w] (fun v_ w_ => v_ = some (.long a) ∧ w_ = cW E (r, rs, rt, rr, rq, rw, rk, rp, rg) (S, SQ, SS, ST, SR, SW, SK, SG, SP, xp, nq)) → (if w = 0 then x.2.1 else if w = 1 then (nI x.1).toInt64 else if w = 2 then x.2.2.1 else x.2.2.2) = a → TwoX Value.long l E (r, rs, rt, rr, rq, rw, rk, rp, rg) rm .long xClN yX7_group cX7_group 5 R7c yX8_group cX8_group 4 R8b [.int (nI q), .int (nI k), .int w] (S, SQ, SS, ST, SR, SW, SK, SG, SP, xp, nq) SM := fun w hw a h7 ea => by
        have h8 := c_X8_group_s l E rm SM m nq q (qEc q (c q)) k x w hm hmo hn hn3 hq k6 h.1.2.1 hx hw
        rw [ea] at h8
        exact twoX_y h0 h7 (h8.mono (fun v w hp => by
          obtain ⟨hh, ab, f, hg, md, row, key, grp, sm, va, mn, lo, hi, e1, e2⟩ := hp
          exact ⟨e1, _, e2, ⟨rfl, rfl, rfl, rfl, rfl, rfl, rfl, rfl, rfl, rfl, rfl, rfl, rfl, rfl, rfl, rfl, rfl⟩, rfl⟩))
      rcases tw4 w with rfl | rfl | rfl | rfl | hw
      · exact go 0 (by decide) (c_X7_group_0 l E r rs rt rr rq rw rk rp rg S SQ SS ST SR SW SK SG SP xp nq m D G lm q k x h.1.1 hn (REL_k h) hq hy) (by rw [if_pos rfl])
      · exact go 1 (by decide) (c_X7_group_1 l E r rs rt rr rq rw rk rp rg S SQ SS ST SR SW SK SG SP xp nq m D G lm q k x h.1.1 hn (REL_k h) hq hy) (by rw [if_neg (by decide), if_pos rfl])
      · exact go 2 (by decide) (c_X7_group_2 l E r rs rt rr rq rw rk rp rg S SQ SS ST SR SW SK SG SP xp nq m D G lm q k x h.1.1 hn (REL_k h) hq hy) (by rw [if_neg (by decide), if_neg (by decide), if_pos rfl])
      · exact go 3 (by decide) (c_X7_group_3 l E r rs rt rr rq rw rk rp rg S SQ SS ST SR SW SK SG SP xp nq m D G lm q k x h.1.1 hn (REL_k h) hq hy) (by rw [if_neg (by decide), if_neg (by decide), if_neg (by decide)])
      · exact twoX_x (a := (0 : Int64)) h0 (x_X7_group_w l hl E r rs rt rr rq rw rk rp rg S SQ SS ST SR SW SK SG SP xp nq m D G lm q k x w h.1.1 hn (REL_k h) hq hy hw) (mS (c_X8_group_w l E rm SM m nq (nI q) (nI k) w hm hn3 (out_w (n := 3) (by decide) hw)) ⟨⟨rfl, rfl, rfl, rfl, rfl, rfl, rfl, rfl, rfl, rfl, rfl, rfl, rfl, rfl, rfl, rfl, rfl⟩, rfl⟩)
    · have h7 : CtX l yX7_group cX7_group 5 (some .long) RXr E (cW E (r, rs, rt, rr, rq, rw, rk, rp, rg) (S, SQ, SS, ST, SR, SW, SK, SG, SP, xp, nq)) [.ref (r 0), .int (nI q), .int k, .int w] xClN (cW E (r, rs, rt, rr, rq, rw, rk, rp, rg) (S, SQ, SS, ST, SR, SW, SK, SG, SP, xp, nq)) := by
        by_cases e0 : k < 0
        · exact x_X7_group_m l hl E r rs rt rr rq rw rk rp rg S SQ SS ST SR SW SK SG SP xp nq m D G lm q k w h.1.1 hn (REL_k h) hq e0
        · obtain ⟨k, hk, rfl⟩ := nI_of e0
          exact x_X7_group_k l hl E r rs rt rr rq rw rk rp rg S SQ SS ST SR SW SK SG SP xp nq m D G lm q k w h.1.1 hn (REL_k h) hq hk (fun z => wi_no' (by omega) e2 ⟨k, by rw [hf]; exact z, rfl⟩)
      by_cases hw : 0 ≤ w ∧ w ≤ 3
      · exact twoX_x (a := (0 : Int64)) h0 h7 ((c_X8_group_n l E rm SM m nq q (qEc q (c q)) k w hm hmo hn hn3 hq k6 h.1.2.1 hw e2).mono (fun v w hp => by
          obtain ⟨hh, ab, f, hg, md, row, key, grp, sm, va, mn, lo, hi, e1, e2⟩ := hp
          exact ⟨e1, _, e2, ⟨rfl, rfl, rfl, rfl, rfl, rfl, rfl, rfl, rfl, rfl, rfl, rfl, rfl, rfl, rfl, rfl, rfl⟩, rfl⟩))
      · exact twoX_x (a := (0 : Int64)) h0 h7 (mS (c_X8_group_w l E rm SM m nq (nI q) k w hm hn3 hw) ⟨⟨rfl, rfl, rfl, rfl, rfl, rfl, rfl, rfl, rfl, rfl, rfl, rfl, rfl, rfl, rfl, rfl, rfl⟩, rfl⟩)
  · exact twoX_x (a := (0 : Int64)) h0 (x_X7_group_q l hl E r rs rt rr rq rw rk rp rg S SQ SS ST SR SW SK SG SP xp nq q k w hn (wi_no' (by omega) e)) (mS (c_X8_group_q l E rm SM m nq q k w hm hn3 e) ⟨⟨rfl, rfl, rfl, rfl, rfl, rfl, rfl, rfl, rfl, rfl, rfl, rfl, rfl, rfl, rfl, rfl, rfl⟩, rfl⟩)
theorem t_look (hl : l.stackTraces = false) (h : RELx c SM) (o w : Int32) : TwoX Value.long l E R rm .long xClN yX7_look cX7_look 3 R7c yX8_look cX8_look 3 R8b [.int o, .int w] c SM := by
  obtain ⟨r, rs, rt, rr, rq, rw, rk, rp, rg⟩ := R
  obtain ⟨S, SQ, SS, ST, SR, SW, SK, SG, SP, xp, nq⟩ := c
  have h0 := h
  obtain ⟨m, D, G, lm, sx, c, h, h360⟩ := h
  have hm := h.1.1.1
  have hn := h.2.1.1
  have hn3 := h.2.1.2
  have hmo := h.1.2.2.1
  by_cases e : thB m (za SS 1) o = true
  · obtain ⟨j, hj, rfl, ht⟩ := th_ex hm e
    have ht8 : ¬ za SM 2 j = 0 := fun z => ht ((h.1.2.2.2.1.2.2.2.2.1 j hj).mp z)
    have hs := h.1.2.2.2.1
    obtain ⟨ln, hln, el⟩ := h.1.2.1.2 j (by omega)
    have es : za SS 4 j = nI ln := by rw [← hs.2.1 j hj ht]; exact el
    rcases tw6 w with rfl | rfl | rfl | rfl | rfl | rfl | hw
    · have h7 := c_X7_look_0 l E r rs rt rr rq rw rk rp rg S SQ SS ST SR SW SK SG SP xp nq m j h.1.1 hj ht
      rw [← hs.2.2.1 j 0 hj ht (by decide)] at h7
      exact twoX_y h0 h7 (mS (c_X8_look_0 l E rm SM m j hm hmo hj ht8) ⟨⟨rfl, rfl, rfl, rfl, rfl, rfl, rfl, rfl, rfl, rfl, rfl, rfl, rfl, rfl, rfl, rfl, rfl⟩, rfl⟩)
    · have h7 := c_X7_look_1 l E r rs rt rr rq rw rk rp rg S SQ SS ST SR SW SK SG SP xp nq m j h.1.1 hj ht
      rw [← hs.2.2.1 j 1 hj ht (by decide)] at h7
      exact twoX_y h0 h7 (mS (c_X8_look_1 l E rm SM m j hm hmo hj ht8) ⟨⟨rfl, rfl, rfl, rfl, rfl, rfl, rfl, rfl, rfl, rfl, rfl, rfl, rfl, rfl, rfl, rfl, rfl⟩, rfl⟩)
    · have h7 := c_X7_look_2 l E r rs rt rr rq rw rk rp rg S SQ SS ST SR SW SK SG SP xp nq m j h.1.1 hj ht
      rw [← hs.2.2.1 j 2 hj ht (by decide)] at h7
      exact twoX_y h0 h7 (mS (c_X8_look_2 l E rm SM m j hm hmo hj ht8) ⟨⟨rfl, rfl, rfl, rfl, rfl, rfl, rfl, rfl, rfl, rfl, rfl, rfl, rfl, rfl, rfl, rfl, rfl⟩, rfl⟩)
    · have h7 := c_X7_look_3 l E r rs rt rr rq rw rk rp rg S SQ SS ST SR SW SK SG SP xp nq m j h.1.1 hj ht
      rw [A_ref h hj ht] at h7
      rcases h.1.2.1.1 j (by omega) with e5 | ⟨i, hi, e5⟩
      · have ee : effL SM j = -1 := by unfold effL; rw [if_pos e5]
        rw [ee] at h7
        exact twoX_y h0 h7 (mS (c_X8_look_3n l E rm SM m j hm hmo hj ht8 e5) ⟨⟨rfl, rfl, rfl, rfl, rfl, rfl, rfl, rfl, rfl, rfl, rfl, rfl, rfl, rfl, rfl, rfl, rfl⟩, rfl⟩)
      · by_cases e6 : za SM 2 i = 0
        · have ee : effL SM j = -1 := by unfold effL; rw [e5, if_neg (nI_nm (by omega)), nI_clamp (by omega), if_pos e6]
          rw [ee] at h7
          exact twoX_y h0 h7 (mS (c_X8_look_3a l E rm SM m j i hm hmo hj ht8 hi e5 e6) ⟨⟨rfl, rfl, rfl, rfl, rfl, rfl, rfl, rfl, rfl, rfl, rfl, rfl, rfl, rfl, rfl, rfl, rfl⟩, rfl⟩)
        · have ee : effL SM j = lN i := by unfold effL; rw [e5, if_neg (nI_nm (by omega)), nI_clamp (by omega), if_neg e6]
          rw [ee] at h7
          exact twoX_y h0 h7 (mS (c_X8_look_3b l E rm SM m j i hm hmo hj ht8 hi e5 e6) ⟨⟨rfl, rfl, rfl, rfl, rfl, rfl, rfl, rfl, rfl, rfl, rfl, rfl, rfl, rfl, rfl, rfl, rfl⟩, rfl⟩)
    · have h7 := c_X7_look_4 l E r rs rt rr rq rw rk rp rg S SQ SS ST SR SW SK SG SP xp nq m j h.1.1 hj ht
      rw [← hs.2.1 j hj ht] at h7
      exact twoX_y h0 h7 (mS (c_X8_look_4 l E rm SM m j hm hmo hj ht8) ⟨⟨rfl, rfl, rfl, rfl, rfl, rfl, rfl, rfl, rfl, rfl, rfl, rfl, rfl, rfl, rfl, rfl, rfl⟩, rfl⟩)
    · have h7 := c_X7_look_5 l E r rs rt rr rq rw rk rp rg S SQ SS ST SR SW SK SG SP xp nq m j h.1.1 hj ht
      rw [← hs.2.2.2.2.2 j hj] at h7
      exact twoX_y h0 h7 (mS (c_X8_look_5 l E rm SM m j hm hmo hj ht8) ⟨⟨rfl, rfl, rfl, rfl, rfl, rfl, rfl, rfl, rfl, rfl, rfl, rfl, rfl, rfl, rfl, rfl, rfl⟩, rfl⟩)
    · by_cases e2 : 10 ≤ w ∧ w ≤ 9 + nI ln
      · obtain ⟨i, hi, rfl⟩ := lk_ix hln e2
        have h7 := c_X7_look_i l E r rs rt rr rq rw rk rp rg S SQ SS ST SR SW SK SG SP xp nq m j i h.1.1 hj ht (by rw [es]; exact it_ok ln (by omega) i hi) (by omega)
        rw [← hs.2.2.2.1 j i hj ht (by omega)] at h7
        exact twoX_y h0 h7 (mS (c_X8_look_i l E rm SM m j i ln hm hmo hj ht8 el hln hi) ⟨⟨rfl, rfl, rfl, rfl, rfl, rfl, rfl, rfl, rfl, rfl, rfl, rfl, rfl, rfl, rfl, rfl, rfl⟩, rfl⟩)
      · exact twoX_x (a := (0 : Int64)) h0 (x_X7_look_w l hl E r rs rt rr rq rw rk rp rg S SQ SS ST SR SW SK SG SP xp nq m j w h.1.1 hj ht hw (fun h10 => by rw [hasB_nI (by omega) hj, es]; exact lk_no hln e2 h10)) (mS (c_X8_look_w l E rm SM m j w hm hmo hj ht8 (out_w (n := 5) (by decide) hw) (by rw [el]; exact e2)) ⟨⟨rfl, rfl, rfl, rfl, rfl, rfl, rfl, rfl, rfl, rfl, rfl, rfl, rfl, rfl, rfl, rfl, rfl⟩, rfl⟩)
  · exact twoX_x (a := (0 : Int64)) h0 (x_X7_look_t l hl E r rs rt rr rq rw rk rp rg S SQ SS ST SR SW SK SG SP xp nq m o w h.1.1 e) (mS (c_X8_look_t l E rm SM m o w hm hmo (by rw [A_th h]; exact e)) ⟨⟨rfl, rfl, rfl, rfl, rfl, rfl, rfl, rfl, rfl, rfl, rfl, rfl, rfl, rfl, rfl, rfl, rfl⟩, rfl⟩)
end PAIRS

/-! class and reference side by side -/
abbrev zC : Type := List (Nat × Nat) × List (Nat × Nat) × List (Nat × Nat) × List (Nat × Nat)
abbrev qEc (q : Nat) (c : zC) : Nat → Nat := qE q c.1 c.2.1 c.2.2.1 c.2.2.2
/-- a dropped OBJECT has no row -/
def dz (SS : zS) (m : Nat) : Prop := ∀ o : Nat, o < m → za SS 1 o = 0 → za SS 4 o = 0
def QI (SM SS : zS) (m q : Nat) (SK SG SP : zS) (D : Nat → zD) (G : List zNd) (lm : Nat) (sx : Nat → Nat) (c : zC) : Prop := kS SK SG SP D G lm ∧ qR sx SM SP q G c.1 c.2.1 c.2.2.1 c.2.2.2 ∧ rowsOk SS SP SK G D m ∧ zl SK 0 = shM D lm ∧ (b60 (zl SK 1) ∧ b60 (zl SK 2)) ∧ qok SM q (qEc q c) ∧ za SM 9 q = nI lm ∧ lm < 100 ∧ (((c.1 ++ c.2.1) ++ c.2.2.1) ++ c.2.2.2).length ≤ 160
def REL (SM SS ST : zS) (SK SG SP : Nat → zS) (m nq : Nat) (D : Nat → Nat → zD) (G : Nat → List zNd) (lm : Nat → Nat) (sx : Nat → Nat → Nat) (c : Nat → zC) : Prop := (stOk SS m ∧ objOk SM ∧ zi SM 2 = nI m ∧ sR2 SM SS m) ∧ (nq ≤ 6 ∧ zi SM 3 = nI nq) ∧ (∀ q : Nat, q < nq → QI SM SS m q (SK q) (SG q) (SP q) (D q) (G q) (lm q) (sx q) (c q)) ∧ (∀ q : Nat, nq ≤ q → q < 6 → k0 (SK q) (SG q) ∧ zl (SK q) 1 = 0 ∧ zl (SK q) 2 = 0) ∧ (zi SM 4 = nI (dLs SK nq).length ∧ dfR (dLs SK nq) (za SM 13)) ∧ dz SS m ∧ ∃ (tp : Nat) (t : Nat → Nat), tpo SM tp t ∧ tpC ST tp t
section RL
variable {SM SM' SS ST : zS} {SK SG SP : Nat → zS} {m nq : Nat} {D : Nat → Nat → zD} {G : Nat → List zNd} {lm : Nat → Nat} {sx : Nat → Nat → Nat} {c : Nat → zC}
theorem REL_QS (h : REL SM SS ST SK SG SP m nq D G lm sx c) : QS SM nq (fun q => qEc q (c q)) lm := ⟨h.2.1.1, h.2.1.2, fun q hq => ⟨(h.2.2.1 q hq).2.2.2.2.2.1, (h.2.2.1 q hq).2.2.2.2.2.2.1, (h.2.2.1 q hq).2.2.2.2.2.2.2.1⟩⟩
theorem REL_k (h : REL SM SS ST SK SG SP m nq D G lm sx c) : ∀ q : Nat, q < nq → kS (SK q) (SG q) (SP q) (D q) (G q) (lm q) := fun q hq => (h.2.2.1 q hq).1
theorem objOk_of (a5 : za SM' 5 = za SM 5) (a6 : za SM' 6 = za SM 6) (h : objOk SM) : objOk SM' := by unfold objOk at *; rw [a5, a6]; exact h
theorem sR2_of {m : Nat} (a2 : za SM' 2 = za SM 2) (a3 : za SM' 3 = za SM 3) (a5 : za SM' 5 = za SM 5) (a6 : za SM' 6 = za SM 6) (b4 : zb SM' 4 = zb SM 4) (b7 : zb SM' 7 = zb SM 7) (h : sR2 SM SS m) : sR2 SM' SS m := by
  unfold sR2 sR effL at *; rw [a2, a3, a5, a6, b4, b7]; exact h
theorem qR_of {q : Nat} {SP : zS} {G : List zNd} {s : Nat → Nat} {c0 c1 c2 c3 : List (Nat × Nat)} (a8 : za SM' 8 q = za SM 8 q) (a11 : za SM' 11 = za SM 11) (a12 : za SM' 12 = za SM 12) (h : qR s SM SP q G c0 c1 c2 c3) : qR s SM' SP q G c0 c1 c2 c3 := by
  unfold qR at *; rw [a8, a11, a12]; exact h
theorem tpo_of {tp : Nat} {t : Nat → Nat} (i1 : zi SM' 1 = zi SM 1) (a1 : za SM' 1 = za SM 1) (h : tpo SM tp t) : tpo SM' tp t := by unfold tpo at *; rw [i1, a1]; exact h
/-- what a call writes aside does not matter -/
theorem REL_of (h : REL SM SS ST SK SG SP m nq D G lm sx c) (i1 : zi SM' 1 = zi SM 1) (i2 : zi SM' 2 = zi SM 2) (i3 : zi SM' 3 = zi SM 3) (i4 : zi SM' 4 = zi SM 4) (a1 : za SM' 1 = za SM 1) (a2 : za SM' 2 = za SM 2) (a3 : za SM' 3 = za SM 3) (a5 : za SM' 5 = za SM 5) (a6 : za SM' 6 = za SM 6) (a8 : za SM' 8 = za SM 8) (a9 : za SM' 9 = za SM 9) (a10 : za SM' 10 = za SM 10) (a11 : za SM' 11 = za SM 11) (a12 : za SM' 12 = za SM 12) (a13 : za SM' 13 = za SM 13) (b4 : zb SM' 4 = zb SM 4) (b7 : zb SM' 7 = zb SM 7) : REL SM' SS ST SK SG SP m nq D G lm sx c := by
  obtain ⟨⟨h1, h2, h3, h4⟩, ⟨h5, h6⟩, h7, h8, ⟨h9, h10⟩, hz, tp, t, h11, h12⟩ := h
  refine ⟨⟨h1, objOk_of a5 a6 h2, by rw [i2]; exact h3, sR2_of a2 a3 a5 a6 b4 b7 h4⟩, ⟨h5, by rw [i3]; exact h6⟩, fun q hq => ?_, h8, ⟨by rw [i4]; exact h9, by rw [a13]; exact h10⟩, hz, tp, t, tpo_of i1 a1 h11, h12⟩
  obtain ⟨k1, k2, k3, k4, k5, k6, k7, k8⟩ := h7 q hq
  exact ⟨k1, qR_of (by rw [a8]) a11 a12 k2, k3, k4, k5, qok_11 a11 a10 k6, by rw [a9]; exact k7, k8⟩
theorem dLs_dfl {SK' : Nat → zS} {sB nB : Nat → Nat → Bool} : ∀ n : Nat, (∀ q : Nat, q < n → dq (SK' q) q = tlL (nB q) (sB q) q false 60 ++ tlL (nB q) (sB q) q true 60) → dLs SK' n = dfl sB nB n
  | 0, _ => rfl
  | n + 1, h => by
    simp only [dLs, dfl]
    rw [dLs_dfl n (fun q hq => h q (by omega)), h n (by omega)]
/-- a CHANGE: the same differences are told, and both stay side by side -/
theorem REL_chg {SS' : zS} {SK' SG' : Nat → zS} {m' ch : Nat} (h : REL SM SS ST SK SG SP m nq D G lm sx c) (hs' : stOk SS' m') (hz' : dz SS' m') (ho' : objOk SM') (i2 : zi SM' 2 = nI m') (hR' : sR2 SM' SS' m') (hA : AG SS SS' ch) (hch : ch < 60) (hm' : m ≤ m') (hc' : ∀ o : Nat, m ≤ o → o < m' → o = ch) (i1 : zi SM' 1 = zi SM 1) (i3 : zi SM' 3 = zi SM 3) (a1 : za SM' 1 = za SM 1) (a8 : za SM' 8 = za SM 8) (a9 : za SM' 9 = za SM 9) (a10 : za SM' 10 = za SM 10) (a11 : za SM' 11 = za SM 11) (a12 : za SM' 12 = za SM 12)
    (hf : ∀ q : Nat, q < nq → flP SS' m' ch (SK q) (SP q) (D q) (G q) (lm q) (SK' q) (SG' q)) (hk : ∀ q : Nat, nq ≤ q → SK' q = SK q ∧ SG' q = SG q) :
    dfN SK' nq = (dfl (nBf SM m (fun q => qEc q (c q)) lm) (nBf SM' m' (fun q => qEc q (c q)) lm) nq).length ∧
    ∀ SM2 : zS, zi SM2 1 = zi SM' 1 → zi SM2 2 = zi SM' 2 → zi SM2 3 = zi SM' 3 → za SM2 1 = za SM' 1 → za SM2 2 = za SM' 2 → za SM2 3 = za SM' 3 → za SM2 5 = za SM' 5 → za SM2 6 = za SM' 6 → za SM2 8 = za SM' 8 → za SM2 9 = za SM' 9 → za SM2 10 = za SM' 10 → za SM2 11 = za SM' 11 → za SM2 12 = za SM' 12 → zb SM2 4 = zb SM' 4 → zb SM2 7 = zb SM' 7 →
      zi SM2 4 = nI (dfl (nBf SM m (fun q => qEc q (c q)) lm) (nBf SM' m' (fun q => qEc q (c q)) lm) nq).length → dfR (dfl (nBf SM m (fun q => qEc q (c q)) lm) (nBf SM' m' (fun q => qEc q (c q)) lm) nq) (za SM2 13) →
      REL SM2 SS' ST SK' SG' SP m' nq (fun q => fwD (chP (zb (SK q) 1) ch) (D q) (rowR SS' (SP q) (G q)) m') G lm sx c := by
  obtain ⟨⟨h1, h2, h3, h4⟩, ⟨h5, h6⟩, h7, h8, -, -, tp, t, h11, h12⟩ := h
  have hQ : ∀ q : Nat, q < nq → QI SM' SS' m' q (SK' q) (SG' q) (SP q) (fwD (chP (zb (SK q) 1) ch) (D q) (rowR SS' (SP q) (G q)) m') (G q) (lm q) (sx q) (c q) := fun q hq => by
    obtain ⟨k1, k2, k3, k4, k5, k6, k7, k8⟩ := h7 q hq
    have f := hf q hq
    refine ⟨f.1, qR_of (by rw [a8]) a11 a12 k2, rows_chg h1 hA hch hm' hs'.1 hc' k3 f, f.2.2.1, ⟨?_, ?_⟩, qok_11 a11 a10 k6, by rw [a9]; exact k7, k8⟩
    · rw [f.2.2.2.1, k4]; exact b60_an (fun u u1 u2 => shM_60 _ _ u1 u2)
    · rw [f.2.2.2.2]; exact b60_an (fun u u1 u2 => shM_60 _ _ u1 u2)
  have hd : dLs SK' nq = dfl (nBf SM m (fun q => qEc q (c q)) lm) (nBf SM' m' (fun q => qEc q (c q)) lm) nq := dLs_dfl nq (fun q hq => by
    obtain ⟨k1, k2, k3, k4, k5, k6, k7, k8⟩ := h7 q hq
    obtain ⟨g1, g2, g3, g4, g5, g6, g7, g8⟩ := hQ q hq
    have f := hf q hq
    refine dq_fl f.2.2.2.1 f.2.2.2.2 (fun o ho => ?_) (fun o ho => ?_)
    · rw [k4]; exact sh_eq h1 h4.1 k2 k3 (lm q) ho
    · exact sh_eq hs' hR'.1 g2 g3 (lm q) ho)
  refine ⟨?_, fun SM2 j1 j2 j3 e1 e2 e3 e5 e6 e8 e9 e10 e11 e12 f4 f7 j4 e13 => ?_⟩
  · rw [dfN_dLs (fun q hq => (hQ q hq).2.2.2.2.1), hd]
  · refine ⟨⟨hs', objOk_of e5 e6 ho', by rw [j2]; exact i2, sR2_of e2 e3 e5 e6 f4 f7 hR'⟩, ⟨h5, by rw [j3, i3]; exact h6⟩, fun q hq => ?_, fun q q1 q2 => ?_, ⟨by rw [hd]; exact j4, by rw [hd]; exact e13⟩, hz', tp, t, tpo_of (j1.trans i1) (e1.trans a1) h11, h12⟩
    · obtain ⟨g1, g2, g3, g4, g5, g6, g7, g8⟩ := hQ q hq
      exact ⟨g1, qR_of (by rw [e8]) e11 e12 g2, g3, g4, g5, qok_11 e11 e10 g6, by rw [e9]; exact g7, g8⟩
    · rw [(hk q q1).1, (hk q q1).2]; exact h8 q q1 q2
end RL

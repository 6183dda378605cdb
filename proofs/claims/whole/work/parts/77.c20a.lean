/-! Kept with plain states -/
def kS (SK SG SP : zS) (D : Nat → zD) (G : List zNd) (lm : Nat) : Prop := zi SK 0 = nI (oD D).length ∧ kI D (za SK 2) (zb SK 3) (zb SK 4) (zb SK 5) (za SK 6) ∧ gI_ D SG ∧ plOk SP G ∧ lm < 100 ∧ zi SP 2 = nI lm
abbrev rowR (SS SP : zS) (G : List zNd) : zR2 := fun o => rowD SS (zi SP 1) (zi SP 3) (zi SP 4) (zi SP 5) (zi SP 6) G o
def shM (D : Nat → zD) (lm : Nat) : Int64 := mskL ((oD D).take (shwN lm (oD D).length))
abbrev w5 (E : zE) (r rp rg rs rw : Nat → Nat) (SK SG SP SW SS : zS) : va_W := kpw E r (rp 0) (rg 0) (rs 0) (rw 0) SK ++ grw E rg SG ++ plw E rp SP ++ wkw E rw (rs 0) SW ++ sw E rs SS
theorem k_follow (l : Launch) (E : zE) (r rp rg rs rw : Nat → Nat) (SK SG SP SW SS : zS) (D : Nat → zD) (m : Nat) (G : List zNd) (lm ch : Nat) (hs : stOk SS m) (hk : kS SK SG SP D G lm) (hch : ch < 60) :
    Ct l yX1_follow cX1_follow 4 none ({ frames := 5, cells := 0, slots := 0, locals := 200 } : Room) E (w5 E r rp rg rs rw SK SG SP SW SS) [.ref (r 0), .int (nI ch)] (fun v_ w_ => ∃ SK' : zS, ∃ SG' : zS, ∃ SW' : zS, v_ = none ∧ w_ = w5 E r rp rg rs rw SK' SG' SP SW' SS ∧ (kS SK' SG' SP (fwD (chP (zb SK 1) ch) D (rowR SS SP G) m) G lm) ∧ (zb SK' 1 = fwH (chP (zb SK 1) ch) (zb SK 1) (rowR SS SP G) m) ∧ (zl SK' 0 = shM (fwD (chP (zb SK 1) ch) D (rowR SS SP G) m) lm ∧ zl SK' 1 = zl SK 0 &&& (shM (fwD (chP (zb SK 1) ch) D (rowR SS SP G) m) lm ^^^ (-1)) ∧ zl SK' 2 = shM (fwD (chP (zb SK 1) ch) D (rowR SS SP G) m) lm &&& (zl SK 0 ^^^ (-1)))) := by
  obtain ⟨h1, h2, ⟨h3, h4⟩, h5, h6, h7⟩ := hk
  have C := c_X1_follow l E r rp rg rs rw SK (zl SK 0) (zl SK 1) (zl SK 2) (zb SK 1) (za SK 2) (zb SK 3) (zb SK 4) (zb SK 5) (za SK 6) SG (zb SG 1) (za SG 2) (zb SG 3) (zb SG 4) SP SW (zl SW 0) (zi SW 0) (zb SW 1) (za SW 2) SS D m G lm ch hs h5 h2 h4 h6 h7 hch
  rw [← h1, ← h3] at C
  refine Ct.mono C ?_
  rintro v w ⟨inn', ky', gv', am', od', va', mn', lo', hi', h', ab', va4, an', rfl, rfl, q1, q2⟩
  exact ⟨_, _, _, rfl, rfl, ⟨rfl, q1, ⟨rfl, q2⟩, h5, h6, h7⟩, rfl, rfl, rfl, rfl⟩
theorem k_begin (l : Launch) (E : zE) (r rp rg rs rw : Nat → Nat) (SK SG SP SW SS : zS) (D : Nat → zD) (m : Nat) (G : List zNd) (lm : Nat) (hs : stOk SS m) (hk : kS SK SG SP D G lm) :
    Ct l yX1_begin cX1_begin 2 none ({ frames := 5, cells := 0, slots := 0, locals := 200 } : Room) E (w5 E r rp rg rs rw SK SG SP SW SS) [.ref (r 0)] (fun v_ w_ => ∃ SK' : zS, ∃ SG' : zS, ∃ SW' : zS, v_ = none ∧ w_ = w5 E r rp rg rs rw SK' SG' SP SW' SS ∧ (kS SK' SG' SP (fwD (fun _ => true) D (rowR SS SP G) m) G lm) ∧ (zb SK' 1 = fwH (fun _ => true) (zb SK 1) (rowR SS SP G) m) ∧ (zl SK' 0 = shM (fwD (fun _ => true) D (rowR SS SP G) m) lm ∧ zl SK' 1 = zl SK 1 ∧ zl SK' 2 = zl SK 2)) := by
  obtain ⟨h1, h2, ⟨h3, h4⟩, h5, h6, h7⟩ := hk
  have C := c_X1_begin l E r rp rg rs rw SK (zl SK 0) (zl SK 1) (zl SK 2) (zb SK 1) (za SK 2) (zb SK 3) (zb SK 4) (zb SK 5) (za SK 6) SG (zb SG 1) (za SG 2) (zb SG 3) (zb SG 4) SP SW (zl SW 0) (zi SW 0) (zb SW 1) (za SW 2) SS D m G lm hs h5 h2 h4 h6 h7
  rw [← h1, ← h3] at C
  refine Ct.mono C ?_
  rintro v w ⟨inn', ky', gv', am', od', va', mn', lo', hi', h', ab', va4, an', rfl, rfl, q1, q2⟩
  exact ⟨_, _, _, rfl, rfl, ⟨rfl, q1, ⟨rfl, q2⟩, h5, h6, h7⟩, rfl, rfl, rfl, rfl⟩
theorem k_read (l : Launch) (E : zE) (r rt rp : Nat → Nat) (S ST SP : zS) (tp : Nat) (sx : Nat → Nat) (xp : Value) (R : zQr) (ht : tpC ST tp sx) (hQ : rq sx 1000 = some R) :
    Ct l yX3_read cX3_read 3 (some .int) ({ frames := 2006, cells := 0, slots := 0, locals := 60170 } : Room) E (rdw E r (rt 0) xp S ++ tpw E rt ST ++ plw E rp SP) [.ref (r 0), .ref (rp 0)] (fun v_ w_ => ∃ v : Int32, ∃ S' : zS, ∃ SP' : zS, v_ = some (.int v) ∧ w_ = rdw E r (rt 0) (.ref (rp 0)) S' ++ tpw E rt ST ++ plw E rp SP' ∧ (R.1 = false → v = nI R.2.1) ∧ (R.1 = true → v = -1 ∧ ∃ G : List zNd, zi SP' 0 = nI G.length ∧ hoN G (za SP' 1) (za SP' 2) (za SP' 3) ∧ cdone sx R G (zi SP' 1) (zi SP' 2) (zi SP' 3) (zi SP' 4) (zi SP' 5) (zi SP' 6))) := by
  refine Ct.mono (c_X3_read l E r rt rp S ST SP tp sx xp R ht hQ) ?_
  rintro v w ⟨v', pl, G, o, l', r', kd, lm, f1, f2, f3, f4, rfl, rfl, q1, q2⟩
  exact ⟨v', _, _, rfl, rfl, q1, fun h => ⟨(q2 h).1, G, rfl, (q2 h).2.1, (q2 h).2.2⟩⟩

/-! rows of class and reference -/
def FOK (sx : Nat → Nat) (c : List (Nat × Nat)) : Prop := c = [] ∨ ∃ n md p op R, (md = 0 ∨ md = 5) ∧ ps sx n md p op = some R ∧ R.1 = true ∧ R.2.2 = c
theorem FOK_of {sx : Nat → Nat} {stop md p q : Nat} {c : List (Nat × Nat)} (hmd : md = 0 ∨ md = 5) (h : optP sx 1000 stop md p = some (true, q, c)) : FOK sx c := by
  unfold optP at h
  split at h
  · cases h; exact Or.inl rfl
  · exact Or.inr ⟨_, _, _, _, _, hmd, h, rfl, rfl⟩
theorem FOK_sem {sx : Nat → Nat} {c : List (Nat × Nat)} (h : FOK sx c) {SM SS : zS} {m ro : Nat} (hs : stOk SS m) (hR : sR SM SS m) (hro : ro < m) (hrt : ¬ za SS 1 ro = 0) (hc : ¬ c = []) : ∃ t, SEM SM SS ro t c := by
  rcases h with e | ⟨n, md, p, op, R, hmd, h, h1, rfl⟩
  · exact absurd e hc
  · rcases hmd with rfl | rfl
    · exact ⟨true, (sem_ps hs hR hro hrt n).1 p op R h h1⟩
    · exact ⟨false, (sem_ps hs hR hro hrt n).2.2.2.2.2.1 p op R h h1⟩
theorem FOK_w {sx : Nat → Nat} {c : List (Nat × Nat)} (h : FOK sx c) : ∃ t, wtl c [] = some t := by
  rcases h with e | ⟨n, md, p, op, ⟨b, q, c'⟩, hmd, h, h1, rfl⟩
  · subst e; exact ⟨[], rfl⟩
  · cases h1
    have hm : md ≤ 10 := by omega
    have := ps_w n md p op q c' hm h []
    rcases hmd with rfl | rfl
    · exact ⟨_, this⟩
    · exact ⟨_, this⟩
theorem rq_f {sx : Nat → Nat} {R : zQr} (h : rq sx 1000 = some R) (hR : R.1 = true) : ∀ c ∈ R.2.2.2, FOK sx c := by
  unfold rq at h
  split at h
  next =>
    split at h
    next =>
      obtain ⟨p0, c0, g0, h⟩ := pq_inv h hR
      have k0 := FOK_of (Or.inl rfl) g0
      unfold rq0 at h
      split at h
      next =>
        obtain ⟨p1, c1, g1, h⟩ := pq_inv h hR
        have k1 := FOK_of (Or.inr rfl) g1
        unfold rq1 at h
        split at h
        next =>
          unfold rq2 at h
          split at h
          next =>
            obtain ⟨p2, c2, g2, h⟩ := pq_inv h hR
            have k2 := FOK_of (Or.inr rfl) g2
            unfold rq3 at h
            split at h
            next =>
              obtain ⟨p3, c3, g3, h⟩ := pq_inv h hR
              have k3 := FOK_of (Or.inr rfl) g3
              cases h
              intro c hc
              simp only [List.mem_cons, List.mem_nil_iff, or_false] at hc
              rcases hc with e | e | e | e <;> rw [e] <;> assumption
            next => cases h; cases hR
          next => cases h; cases hR
        next => cases h; cases hR
      next => cases h; cases hR
    next => cases h; cases hR
  next => cases h; cases hR
/-- a QUERY as class and reference hold it -/
def qR (sx : Nat → Nat) (SM SP : zS) (q : Nat) (G : List zNd) (c0 c1 c2 c3 : List (Nat × Nat)) : Prop := laid (za SM 11) (za SM 12) (240 * q) (((c0 ++ c1) ++ c2) ++ c3) ∧ za SM 8 q = zi SP 1 ∧ (∃ G0 G1 G2, PF [] c0 G0 (zi SP 3) ∧ PF G0 c1 G1 (zi SP 4) ∧ PF G1 c2 G2 (zi SP 5) ∧ PF G2 c3 G (zi SP 6)) ∧ G.length ≤ 80 ∧ ∀ c ∈ [c0, c1, c2, c3], FOK sx c ∧ c.length ≤ 160
section ROW
variable {sx : Nat → Nat} {SM SS SP : zS} {m q o : Nat} {G : List zNd} {c0 c1 c2 c3 : List (Nat × Nat)}
theorem wCm_c {e1 e2 : Nat} {c : List (Nat × Nat)} (he : e2 = e1 + c.length) : (e2 = e1) ↔ c = [] := by
  constructor
  · intro h
    exact List.length_eq_zero_iff.mp (by omega)
  · intro h; subst h; simpa using he
theorem row_tie (hs : stOk SS m) (hR : sR SM SS m) (hq : qR sx SM SP q G c0 c1 c2 c3) (ho : o < m) :
    (rowR SS SP G o).1 = (if sel SM q (qE q c0 c1 c2 c3) o = true then some (rowOf SM (qE q c0 c1 c2 c3) o).2 else none) ∧ ∀ u : Nat, u < 60 → (bitL (rowR SS SP G o).2 u = true ↔ (¬ za SM 2 o = 0 ∧ za SM 3 o = za SM 8 q) ∧ ¬ (wC SM o (qE q c0 c1 c2 c3) 4).2.2 u = 0) := by
  obtain ⟨hl, hkd, ⟨G0, G1, G2, p0, p1, p2, p3⟩, hG, hF⟩ := hq
  have hC : (¬ za SS 1 o = 0 ∧ za SS 2 o = zi SP 1) ↔ (¬ za SM 2 o = 0 ∧ za SM 3 o = za SM 8 q) := by
    rw [hR.2.2.2.2.1 o ho, hR.2.2.2.2.2 o ho, hkd]
  by_cases hc : ¬ za SS 1 o = 0 ∧ za SS 2 o = zi SP 1
  · obtain ⟨k0, l0⟩ := hF c0 (by simp)
    obtain ⟨k1, l1⟩ := hF c1 (by simp)
    obtain ⟨k2, l2⟩ := hF c2 (by simp)
    obtain ⟨k3, l3⟩ := hF c3 (by simp)
    obtain ⟨w0, hw0⟩ := FOK_w k0
    obtain ⟨w1, hw1⟩ := FOK_w k1
    obtain ⟨w2, hw2⟩ := FOK_w k2
    obtain ⟨w3, hw3⟩ := FOK_w k3
    have sm : ∀ {c : List (Nat × Nat)}, FOK sx c → ∃ t, (¬ c = [] → SEM SM SS o t c) := fun {c} k => by
      by_cases e : c = []
      · exact ⟨true, fun z => absurd e z⟩
      · obtain ⟨t, h⟩ := FOK_sem k hs hR ho hc.1 e
        exact ⟨t, fun _ => h⟩
    obtain ⟨t0, s0⟩ := sm k0
    obtain ⟨t1, s1⟩ := sm k1
    obtain ⟨t2, s2⟩ := sm k2
    obtain ⟨t3, s3⟩ := sm k3
    obtain ⟨P1, P2, P3, P4, e1, e2, e3, e4, ha, hh, hv⟩ := row_eq p0 p1 p2 p3 s0 s1 s2 s3 hG l0 l1 l2 l3
    obtain ⟨d1, d2, d3, d4⟩ := wC_rh (ro := o) hl hw0 hw1 hw2 hw3
    rw [← e1] at d1
    rw [d1, ← e2] at d2
    rw [d2, ← e3] at d3
    rw [d3, ← e4] at d4
    have m0 : wCm SM o (qE q c0 c1 c2 c3) 0 = (if c0 = [] then 1 else P1.2.1 0) := by
      show (if 240 * q + c0.length = 240 * q then _ else (wC SM o (qE q c0 c1 c2 c3) 1).2.1 0) = _
      rw [d1]
      by_cases e : c0 = []
      · subst e; rw [if_pos (show 240 * q + ([] : List (Nat × Nat)).length = 240 * q from by simp), if_pos rfl]; rfl
      · rw [if_neg e, if_neg (fun z => e ((wCm_c rfl).mp z))]
    have m1 : wCm SM o (qE q c0 c1 c2 c3) 1 = (if c1 = [] then 0 else P2.2.1 0) := by
      show (if 240 * q + (c0 ++ c1).length = 240 * q + c0.length then _ else (wC SM o (qE q c0 c1 c2 c3) 2).2.1 0) = _
      rw [d2]
      by_cases e : c1 = []
      · subst e; rw [List.append_nil, if_pos rfl, if_pos rfl]; rfl
      · rw [if_neg e, if_neg (fun z => e ((wCm_c (by rw [List.length_append]; omega)).mp z))]
    have m2 : wCm SM o (qE q c0 c1 c2 c3) 2 = (if c2 = [] then 0 else P3.2.1 0) := by
      show (if 240 * q + ((c0 ++ c1) ++ c2).length = 240 * q + (c0 ++ c1).length then _ else (wC SM o (qE q c0 c1 c2 c3) 3).2.1 0) = _
      rw [d3]
      by_cases e : c2 = []
      · subst e; rw [List.append_nil, if_pos rfl, if_pos rfl]; rfl
      · rw [if_neg e, if_neg (fun z => e ((wCm_c (by rw [List.length_append (as := c0 ++ c1)]; omega)).mp z))]
    have m3 : wCm SM o (qE q c0 c1 c2 c3) 3 = (if c3 = [] then 1 else P4.2.1 0) := by
      show (if 240 * q + (((c0 ++ c1) ++ c2) ++ c3).length = 240 * q + ((c0 ++ c1) ++ c2).length then _ else (wC SM o (qE q c0 c1 c2 c3) 4).2.1 0) = _
      rw [d4]
      by_cases e : c3 = []
      · subst e; rw [List.append_nil, if_pos rfl, if_pos rfl]; rfl
      · rw [if_neg e, if_neg (fun z => e ((wCm_c (by rw [List.length_append (as := (c0 ++ c1) ++ c2)]; omega)).mp z))]
    have hM := hC.mp hc
    have hsel : sel SM q (qE q c0 c1 c2 c3) o = wIn SM o (qE q c0 c1 c2 c3) := by
      unfold sel
      rw [decide_eq_true hM.1, decide_eq_true hM.2, Bool.true_and, Bool.true_and]
    refine ⟨?_, fun u hu => ?_⟩
    · rw [hsel]
      show (rowD SS (zi SP 1) (zi SP 3) (zi SP 4) (zi SP 5) (zi SP 6) G o).1 = _
      unfold rowD
      rw [if_pos hc]
      dsimp only
      cases hA : (evL SS o G ([], 0)).1.any (·.2) with
      | true =>
        rw [hA, if_pos rfl] at ha
        have : wIn SM o (qE q c0 c1 c2 c3) = false := by
          unfold wIn; rw [d4, ha]; exact decide_eq_false (fun z => absurd z.1 (by decide))
        rw [this, if_neg (fun z => by cases z.1), if_neg (by decide)]
      | false =>
        rw [hA, if_neg (by decide)] at ha
        have v1 := hv hA 1
        have v0 := hv hA 0
        have x0 : vO (evL SS o G ([], 0)).1 (zi SP 3) 1 = wCm SM o (qE q c0 c1 c2 c3) 0 := by rw [m0]; exact v1.1
        have x1 : vO (evL SS o G ([], 0)).1 (zi SP 4) 0 = wCm SM o (qE q c0 c1 c2 c3) 1 := by rw [m1]; exact v0.2.1
        have x2 : vO (evL SS o G ([], 0)).1 (zi SP 5) 0 = wCm SM o (qE q c0 c1 c2 c3) 2 := by rw [m2]; exact v0.2.2.1
        have x3 : vO (evL SS o G ([], 0)).1 (zi SP 6) 1 = wCm SM o (qE q c0 c1 c2 c3) 3 := by rw [m3]; exact v1.2.2.2
        rw [x0, x1, x2, x3]
        have hw : wIn SM o (qE q c0 c1 c2 c3) = decide (¬ wCm SM o (qE q c0 c1 c2 c3) 0 = 0) := by
          unfold wIn; rw [d4, ha]; exact decide_eq_decide.mpr ⟨fun z => z.2, fun z => ⟨rfl, z⟩⟩
        rw [hw]
        by_cases hz : wCm SM o (qE q c0 c1 c2 c3) 0 = 0
        · rw [if_neg (fun z => z.2 hz), decide_eq_false (fun z => z hz), if_neg (by decide)]
        · rw [if_pos ⟨rfl, hz⟩, decide_eq_true hz, if_pos rfl]; rfl
    · rw [d4]
      show bitL (rowD SS (zi SP 1) (zi SP 3) (zi SP 4) (zi SP 5) (zi SP 6) G o).2 u = true ↔ _
      unfold rowD
      rw [if_pos hc]
      dsimp only
      rw [hh u hu]
      exact ⟨fun z => ⟨hM, z⟩, fun z => z.2⟩
  · have hr : rowR SS SP G o = (none, 0) := rowD_n hc
    have hM : ¬ (¬ za SM 2 o = 0 ∧ za SM 3 o = za SM 8 q) := fun z => hc (hC.mpr z)
    have hsel : sel SM q (qE q c0 c1 c2 c3) o = false := by
      unfold sel
      by_cases a : za SM 2 o = 0
      · rw [decide_eq_false (fun z => z a)]; rfl
      · rw [decide_eq_false (fun z => hM ⟨a, z⟩), Bool.false_and, Bool.and_false]
    rw [hr, hsel]
    refine ⟨by rw [if_neg (by decide)], fun u hu => ?_⟩
    rw [bit0 (by omega)]
    exact ⟨fun z => (by cases z), fun z => absurd z.1 hM⟩
/-- the order of the rows is the reference's -/
theorem fl_fD (hs : stOk SS m) (hR : sR SM SS m) (hq : qR sx SM SP q G c0 c1 c2 c3) : ∀ i : Nat, i ≤ m → fl SM q (qE q c0 c1 c2 c3) i = fD (fun o => (rowR SS SP G o).1) i
  | 0, _ => rfl
  | i + 1, hi => by
    have ih := fl_fD hs hR hq i (by omega)
    have hr := (row_tie hs hR hq (o := i) (by omega)).1
    show (if sel SM q (qE q c0 c1 c2 c3) i = true then insS (rowOf SM (qE q c0 c1 c2 c3) i) (fl SM q (qE q c0 c1 c2 c3) i) else fl SM q (qE q c0 c1 c2 c3) i) = (match (rowR SS SP G i).1 with
      | none => fD (fun o => (rowR SS SP G o).1) i
      | some d => insS (i, d) (fD (fun o => (rowR SS SP G o).1) i))
    rw [hr, ih]
    by_cases e : sel SM q (qE q c0 c1 c2 c3) i = true
    · rw [if_pos e, if_pos e]; rfl
    · rw [if_neg e, if_neg e]
end ROW

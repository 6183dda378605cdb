/-! a QUERY of the class beside the reference's -/
theorem fD_cut {D : Nat → zD} {n : Nat} : ∀ k : Nat, (∀ o : Nat, n ≤ o → o < n + k → D o = none) → fD D (n + k) = fD D n
  | 0, _ => rfl
  | k + 1, h => by
    have ih := fD_cut k (fun o h1 h2 => h o h1 (by omega))
    show (match D (n + k) with
      | none => fD D (n + k)
      | some d => insS (n + k, d) (fD D (n + k))) = _
    rw [h (n + k) (by omega) (by omega)]
    exact ih
theorem fD_congr {D D' : Nat → zD} : ∀ n : Nat, (∀ o : Nat, o < n → D o = D' o) → fD D n = fD D' n
  | 0, _ => rfl
  | n + 1, h => by
    have ih := fD_congr n (fun o ho => h o (by omega))
    simp only [fD]
    rw [h n (by omega), ih]
/-- rows kept are the rows worked out anew -/
def rowsOk (SS SP SK : zS) (G : List zNd) (D : Nat → zD) (m : Nat) : Prop := (∀ o : Nat, o < m → D o = (rowR SS SP G o).1) ∧ (∀ o : Nat, m ≤ o → o < 60 → D o = none) ∧ ∀ o : Nat, o < m → zb SK 1 o = (rowR SS SP G o).2
theorem sR_cw {SM SS : zS} {m : Nat} (h : sR SM SS m) : sR (cw SM) SS m := h
section RQ
variable {sx : Nat → Nat} {SM SS SP SK : zS} {m q : Nat} {G : List zNd} {D : Nat → zD} {c0 c1 c2 c3 : List (Nat × Nat)}
theorem qR_cw (h : qR sx SM SP q G c0 c1 c2 c3) : qR sx (cw SM) SP q G c0 c1 c2 c3 := h
theorem fL_fD (hs : stOk SS m) (hR : sR SM SS m) (hq : qR sx SM SP q G c0 c1 c2 c3) (hr : rowsOk SS SP SK G D m) : fL SM q (qE q c0 c1 c2 c3) m = fD D 60 := by
  have hm := hs.1
  have e1 : fD D 60 = fD D m := by
    obtain ⟨k, hk⟩ : ∃ k, 60 = m + k := ⟨60 - m, by omega⟩
    rw [hk]
    exact fD_cut k (fun o h1 h2 => hr.2.1 o h1 (by omega))
  rw [e1, fD_congr m hr.1]
  exact fl_fD (SM := cw SM) hs (sR_cw hR) (qR_cw hq) m (Nat.le_refl _)
theorem sh_eq (hs : stOk SS m) (hR : sR SM SS m) (hq : qR sx SM SP q G c0 c1 c2 c3) (hr : rowsOk SS SP SK G D m) (lm : Nat) {u : Nat} (hu : u < 60) : bitL (shM D lm) u = dS SM m q (qE q c0 c1 c2 c3) lm u := by
  rw [shM_bit D lm (by omega), ← fL_fD hs hR hq hr]
  rfl
/-- what a ROW HANGS on -/
theorem us_eq (hs : stOk SS m) (hR : sR SM SS m) (hq : qR sx SM SP q G c0 c1 c2 c3) (hr : rowsOk SS SP SK G D m) {u : Nat} (hu : u < 60) : ∀ k : Nat, k ≤ m → ctB (fun o => bitL (zb SK 1 o) u) k = usN SM q (qE q c0 c1 c2 c3) u k
  | 0, _ => rfl
  | k + 1, hk => by
    have ih := us_eq hs hR hq hr hu k (by omega)
    have ht := (row_tie hs hR hq (o := k) (by omega)).2 u hu
    rw [← hr.2.2 k (by omega)] at ht
    have this : bitL (zb SK 1 k) u = usB SM q (qE q c0 c1 c2 c3) u k := by
      unfold usB
      rw [Bool.eq_iff_iff, ht, Bool.and_eq_true, Bool.and_eq_true, decide_eq_true_iff, decide_eq_true_iff, decide_eq_true_iff]
      exact ⟨fun z => ⟨z.1.1, z.1.2, z.2⟩, fun z => ⟨⟨z.1, z.2.1⟩, z.2.2⟩⟩
    simp only [ctB, usN, ih, this]
/-- a CHANGE: the rows are again as if worked out anew -/
theorem rows_chg {SS' SK' : zS} {m' ch lm : Nat} {SG' : zS} (hs : stOk SS m) (hA : AG SS SS' ch) (hch : ch < 60) (hm' : m ≤ m') (hm6 : m' ≤ 60) (hc' : ∀ o : Nat, m ≤ o → o < m' → o = ch) (hr : rowsOk SS SP SK G D m) (hf : flP SS' m' ch SK SP D G lm SK' SG') : rowsOk SS' SP SK' G (fwD (chP (zb SK 1) ch) D (rowR SS' SP G) m') m' := by
  have fa := fw_all (SP := SP) (G := G) (hg := zb SK 1) hs hA hch hr.1 hr.2.2 hm' hc'
  refine ⟨fun o ho => (fa o ho).1, fun o h1 h2 => ?_, fun o ho => ?_⟩
  · unfold fwD
    rw [if_neg (fun z => absurd z.1 (by omega))]
    exact hr.2.1 o (by omega) h2
  · rw [hf.2.1]; exact (fa o ho).2
end RQ

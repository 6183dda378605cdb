/-! a whole run of a QUERY's code for a ROW -/
abbrev zP : Type := Int32 × (Nat → Int64) × (Nat → Int32)
def hgz (hg : Nat → Int32) (n : Nat) : Nat → Int32 := fun o => if o < n then 0 else hg o
theorem hgz_0 (hg : Nat → Int32) : hgz hg 0 = hg := by funext o; simp [hgz]
theorem hgz_s (hg : Nat → Int32) (i : Nat) : upd (hgz hg i) i 0 = hgz hg (i + 1) := by
  funext o
  by_cases h : o = i
  · subst h
    rw [pk_us]
    simp [hgz]
  · rw [pk_un h]
    simp only [hgz]
    by_cases h2 : o < i
    · rw [if_pos h2, if_pos (by omega)]
    · rw [if_neg h2, if_neg (by omega)]
def zM (S : zS) (md : Nat → Int64) : zS := (S.1, S.2.1, S.2.2.1, fun i => if i = 17 then md else S.2.2.2 i)
def mwk (S : zS) (hh ab : Int32) (f : Nat → Int64) (hg : Nat → Int32) (md : Nat → Int64) : zS := mst (zM S md) hh ab f hg
def cOp (S : zS) (k : Nat) : Nat := (za S 11 k).toNatClampNeg
def tyr (S : zS) : Nat → Nat → List Bool → Option (List Bool)
  | _, 0, t => some t
  | a, n + 1, t => match wt (cOp S a) t with
    | none => none
    | some t' => tyr S (a + 1) n t'
def rrn (S : zS) (ro : Nat) : Nat → Nat → List Bool → zP → zP
  | _, 0, _, p => p
  | a, n + 1, t, p => match wt (cOp S a) t with
    | none => p
    | some t' => rrn S ro (a + 1) n t' (rst S ro (cOp S a) (za S 12 a) (t'.length - 1) p)
/-- a QUERY's code: its four ends, its kinds of steps, what it leaves -/
def qok (S : zS) (q : Nat) (e : Nat → Nat) : Prop := e 0 = 240 * q ∧ (∀ f : Nat, f < 4 → e f ≤ e (f + 1)) ∧ e 4 ≤ 240 * q + 200 ∧ (∀ f : Nat, f < 4 → za S 10 (4 * q + f) = nI (e (f + 1))) ∧ (∀ k : Nat, 240 * q ≤ k → k < e 4 → za S 11 k = nI (cOp S k)) ∧ ∀ f : Nat, f < 4 → tyr S (e f) (e (f + 1) - e f) [] = some (if e (f + 1) = e f then [] else [false])
def wkp (S : zS) (ro : Nat) (e : Nat → Nat) (p : zP) : Nat → zP
  | 0 => p
  | f + 1 => rrn S ro (e f) (e (f + 1) - e f) [] (wkp S ro e p f)
def wkm (S : zS) (ro : Nat) (e : Nat → Nat) (p : zP) (f : Nat) : Int64 := if e (f + 1) = e f then (if f = 0 ∨ f = 3 then 1 else 0) else (wkp S ro e p (f + 1)).2.1 0
abbrev wk0 (S : zS) : zP := (0, zb S 15, hgz (za S 16) 60)
def wkmd (S : zS) (ro : Nat) (e : Nat → Nat) : Nat → Int64 := vp_updL (vp_updL (vp_updL (vp_updL (zb S 17) 0 (wkm S ro e (wk0 S) 0)) 1 (wkm S ro e (wk0 S) 1)) 2 (wkm S ro e (wk0 S) 2)) 3 (wkm S ro e (wk0 S) 3)
theorem gI {a b : Nat} (ha : a < 2 ^ 31) (hb : b < 2 ^ 31) (h : nI a ≤ nI b) : a ≤ b := (nI_leI ha hb).mp h
theorem ngI {a b : Nat} (ha : a < 2 ^ 31) (hb : b < 2 ^ 31) (h : ¬ nI a ≤ nI b) : b < a := Nat.lt_of_not_le fun q => h ((nI_leI ha hb).mpr q)
theorem mulL (a b : Nat) : nI a * nI b = nI (a * b) := pk_mul a b
theorem ix4 (q f : Nat) : nI 4 * nI q + nI f = nI (4 * q + f) := by rw [pk_mul, nI_add]
theorem rsOk_upd {f : Nat → Int64} {b : Nat} {v : Int64} : ∀ {t : List Bool}, t.length ≤ b → rsOk f t → rsOk (vp_updL f b v) t
  | [], _, _ => trivial
  | c :: t, h, hk => by
    simp only [List.length_cons] at h
    refine ⟨fun hc => ?_, rsOk_upd (by omega) hk.2⟩
    rw [pk_uLn (by omega)]
    exact hk.1 hc
theorem rsOk_num {f : Nat → Int64} {t : List Bool} {v : Int64} (h : rsOk f t) : rsOk (vp_updL f t.length v) (false :: t) := ⟨fun q => absurd q (by decide), rsOk_upd (Nat.le_refl _) h⟩
theorem rsOk_obj {f : Nat → Int64} {t : List Bool} {v : Int64} (hv : v = -1 ∨ ∃ j : Nat, j < 60 ∧ v = lN j) (h : rsOk f t) : rsOk (vp_updL f t.length v) (true :: t) := ⟨fun _ => by rw [pk_uLs]; exact hv, rsOk_upd (Nat.le_refl _) h⟩
theorem effL_ok {S : zS} (ho : objOk S) {j : Nat} (hj : j < 60) : effL S j = -1 ∨ ∃ i : Nat, i < 60 ∧ effL S j = lN i := by
  unfold effL
  rcases ho.1 j hj with h | ⟨i, hi, h⟩
  · left; rw [if_pos h]
  · have hm : ¬ za S 5 j = -1 := by rw [h]; exact nI_nm (by omega)
    have hc : (za S 5 j).toNatClampNeg = i := by rw [h]; exact nI_clamp (by omega)
    rw [if_neg hm, hc]
    by_cases ht : za S 2 i = 0
    · left; rw [if_pos ht]
    · right; exact ⟨i, hi, by rw [if_neg ht]⟩
theorem rsOk_step {S : zS} (ho : objOk S) {ro op : Nat} (hro : ro < 60) {num : Int32} {p : zP} {t t' : List Bool} (hok : rsOk p.2.1 t) (hw : wt op t = some t') : rsOk (rst S ro op num (t'.length - 1) p).2.1 t' ∧ t'.length ≤ t.length + 1 := by
  obtain ⟨ab, f, hg⟩ := p
  dsimp only at hok ⊢
  by_cases h0 : op = 0
  · subst h0; cases hw
    exact ⟨rsOk_num hok, Nat.le_refl _⟩
  by_cases h1 : op = 1
  · subst h1; cases hw
    exact ⟨rsOk_obj (Or.inr ⟨ro, hro, rfl⟩) hok, Nat.le_refl _⟩
  cases t with
  | nil => simp [wt, h0, h1] at hw
  | cons b t =>
    cases b with
    | true =>
      by_cases h2 : op = 2
      · subst h2; cases hw
        refine ⟨?_, by simp⟩
        simp only [rst, List.length_cons, Nat.add_sub_cancel, if_neg h0, if_neg h1]
        by_cases hm : f t.length = -1
        · rw [if_pos hm]
          exact rsOk_obj (Or.inl rfl) hok.2
        · rw [if_neg hm]
          rcases hok.1 rfl with q | ⟨j, hj, q⟩
          · exact absurd q hm
          · rw [q, lN_clamp (by omega)]
            exact rsOk_obj (effL_ok ho hj) hok.2
      · have h37 : 3 ≤ op ∧ op ≤ 7 := by
          rcases Classical.em (3 ≤ op ∧ op ≤ 7) with q | q
          · exact q
          · simp [wt, h0, h1, h2, q] at hw
        have ht' : t' = false :: t := by
          simp [wt, h0, h1, h2, h37] at hw
          exact hw.symm
        subst ht'
        refine ⟨?_, by simp⟩
        simp only [rst, List.length_cons, Nat.add_sub_cancel, if_neg h0, if_neg h1, if_neg h2]
        repeat' split
        all_goals first | exact rsOk_num hok.2 | omega
    | false =>
      by_cases h9 : op = 9
      · subst h9; cases hw
        exact ⟨rsOk_num hok.2, by simp⟩
      by_cases h21 : op = 21
      · subst h21; cases hw
        exact ⟨rsOk_num hok.2, by simp⟩
      cases t with
      | nil => simp [wt, h0, h1, h9, h21] at hw
      | cons b t =>
        have ht' : t' = false :: t := by
          cases b with
          | true =>
            by_cases h8 : op = 8
            · simp [wt, h8] at hw; exact hw.symm
            · simp [wt, h0, h1, h9, h21, h8] at hw
          | false =>
            by_cases hb : 10 ≤ op ∧ op ≤ 20
            · simp [wt, h0, h1, h9, h21, hb] at hw; exact hw.symm
            · simp [wt, h0, h1, h9, h21, hb] at hw
        subst ht'
        refine ⟨?_, by simp⟩
        simp only [rst, List.length_cons, Nat.add_sub_cancel]
        repeat' split
        all_goals first | exact rsOk_num hok.2.2 | (exfalso; cases b <;> simp_all [wt])
theorem tyr_s {S : zS} {a n : Nat} {t tf : List Bool} (h : tyr S a (n + 1) t = some tf) : ∃ t', wt (cOp S a) t = some t' ∧ tyr S (a + 1) n t' = some tf := by
  simp only [tyr] at h
  cases hw : wt (cOp S a) t with
  | none => rw [hw] at h; cases h
  | some t' => rw [hw] at h; exact ⟨t', rfl, h⟩
theorem rrn_s {S : zS} {ro a n : Nat} {t t' : List Bool} {p : zP} (h : wt (cOp S a) t = some t') : rrn S ro a (n + 1) t p = rrn S ro (a + 1) n t' (rst S ro (cOp S a) (za S 12 a) (t'.length - 1) p) := by
  simp only [rrn, h]

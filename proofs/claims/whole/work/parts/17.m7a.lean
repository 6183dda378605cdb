/-! what is SHOWN, and the DIFFERENCES -/
def cw (S : zS) : zS := (fun _ => 0, fun _ => 0, fun i => if i = 2 then za S 2 else if i = 3 then za S 3 else if i = 5 then za S 5 else if i = 6 then za S 6 else if i = 8 then za S 8 else if i = 11 then za S 11 else if i = 12 then za S 12 else fun _ => 0, fun i => if i = 4 then zb S 4 else if i = 7 then zb S 7 else fun _ => 0)
theorem fl_cw (S : zS) (q : Nat) (e : Nat → Nat) : ∀ m : Nat, fl S q e m = fl (cw S) q e m
  | 0 => rfl
  | m + 1 => by
    show (if sel (cw S) q e m then insS (rowOf (cw S) e m) (fl S q e m) else fl S q e m) = _
    rw [fl_cw S q e m]
    rfl
def fL (S : zS) (q : Nat) (e : Nat → Nat) (m : Nat) : List zRow := fl (cw S) q e m
theorem fl_lt (S : zS) (q : Nat) (e : Nat → Nat) : ∀ (m : Nat) (x : zRow), x ∈ fl S q e m → x.1 < m
  | 0, x, h => by simp [fl] at h
  | m + 1, x, h => by
    simp only [fl] at h
    split at h
    · rcases (insS_mem _ _ _).mp h with rfl | h
      · exact Nat.lt_succ_self m
      · exact Nat.lt_succ_of_lt (fl_lt S q e m x h)
    · exact Nat.lt_succ_of_lt (fl_lt S q e m x h)
theorem fL_lt {S : zS} {q m i : Nat} {e : Nat → Nat} {x : zRow} (h : (fL S q e m)[i]? = some x) : x.1 < m := fl_lt _ _ _ _ _ (List.mem_of_getElem? h)
theorem fL_len (S : zS) (q : Nat) (e : Nat → Nat) (m : Nat) : (fL S q e m).length ≤ m := fl_len _ _ _ _
theorem c_X8_find2 (l : Launch) (E : zE) (r : Nat → Nat) (S : zS) (q : Nat) (e : Nat → Nat) (m : Nat) (hq : q < 6) (hm : m ≤ 60) (hmo : zi S 2 = nI m) (hqo : qok S q e) (ho : objOk S) :
    Ct l yX8_find cX8_find 4 none ({ frames := 4, cells := 0, slots := 0, locals := 120 } : Room) E (mw E r S) [.ref (r 0), .int (nI q)] (fun v_ w_ => ∃ hh : Int32, ∃ ab : Int32, ∃ f : Nat → Int64, ∃ hg : Nat → Int32, ∃ md : Nat → Int64, ∃ row : Nat → Int32, ∃ key : Nat → Int64, ∃ grp : Nat → Int64, ∃ sm : Nat → Int64, v_ = none ∧ w_ = mw E r (mfd S hh ab f hg md (nI (fL S q e m).length) row key grp sm) ∧ (hoR (fL S q e m) row key grp sm)) := by
  have h := c_X8_find l E r S q e m hq hm hmo hqo ho
  rw [fl_cw] at h
  exact h
def shN (c n : Nat) : Nat := if c = 0 ∨ n < c then n else c
theorem shN_le (c n : Nat) : shN c n ≤ n := by unfold shN; split <;> omega
def isSh (L : List zRow) (n o : Nat) : Bool := (L.take n).any (fun x => x.1 == o)
theorem isSh_0 (L : List zRow) (o : Nat) : isSh L 0 o = false := by simp [isSh]
theorem isSh_s {L : List zRow} {k : Nat} {x : zRow} (h : L[k]? = some x) (o : Nat) : isSh L (k + 1) o = (isSh L k o || x.1 == o) := by
  unfold isSh
  rw [List.take_succ, h]
  simp
/-- SHOWN by a QUERY, in the state as it is -/
def dS (S : zS) (m q : Nat) (e : Nat → Nat) (c o : Nat) : Bool := isSh (fL S q e m) (shN c (fL S q e m).length) o
def QS (S : zS) (nq : Nat) (eq : Nat → Nat → Nat) (cq : Nat → Nat) : Prop := nq ≤ 6 ∧ zi S 3 = nI nq ∧ ∀ q : Nat, q < nq → qok S q (eq q) ∧ za S 9 q = nI (cq q) ∧ cq q < 100
def mse (S : zS) (hh ab : Int32) (f : Nat → Int64) (hg : Nat → Int32) (md : Nat → Int64) (n : Int32) (row : Nat → Int32) (key grp sm : Nat → Int64) (sh nw : Nat → Int32) (d : Int32) (df : Nat → Int32) : zS := (fun i => if i = 5 then hh else if i = 6 then ab else if i = 7 then n else if i = 4 then d else S.1 i, S.2.1, fun i => if i = 16 then hg else if i = 18 then row else if i = 14 then sh else if i = 26 then nw else if i = 13 then df else S.2.2.1 i, fun i => if i = 15 then f else if i = 17 then md else if i = 19 then key else if i = 20 then grp else if i = 21 then sm else S.2.2.2 i)
theorem ix60 (q o : Nat) : nI 60 * nI q + nI o = nI (60 * q + o) := by rw [pk_mul, nI_add]
theorem mul3 (d : Nat) : nI 3 * nI d = nI (3 * d) := pk_mul 3 d
/-- a row of a QUERY's 60 places -/
def okSh (sh : Nat → Int32) (b q : Nat) (B : Nat → Bool) : Prop := ∀ o : Nat, o < b → sh (60 * q + o) = bI (B o)
theorem okSh_un {sh : Nat → Int32} {q q' j : Nat} {B : Nat → Bool} {v : Int32} (h : okSh sh 60 q' B) (hq : q' < q) : okSh (upd sh (60 * q + j) v) 60 q' B := fun o ho => by rw [pk_un (by omega)]; exact h o ho
theorem okSh_c {sh : Nat → Int32} {q i : Nat} (h : okSh sh i q (fun _ => false)) : okSh (upd sh (60 * q + i) 0) (i + 1) q (fun _ => false) := fun o ho => by
  by_cases e : o = i
  · subst e; rw [pk_us]; rfl
  · rw [pk_un (by omega)]; exact h o (by omega)
theorem okSh_s {sh : Nat → Int32} {q k : Nat} {L : List zRow} {x : zRow} (h : okSh sh 60 q (isSh L k)) (hx : L[k]? = some x) : okSh (upd sh (60 * q + x.1) 1) 60 q (isSh L (k + 1)) := fun o ho => by
  rw [isSh_s hx]
  by_cases e : o = x.1
  · subst e; rw [pk_us]; simp [bI]
  · rw [pk_un (by omega), h o ho]
    have : (x.1 == o) = false := by simp; omega
    rw [this, Bool.or_false]
theorem okSh_0 {sh : Nat → Int32} {q : Nat} (L : List zRow) (h : okSh sh 60 q (fun _ => false)) : okSh sh 60 q (isSh L 0) := fun o ho => by rw [isSh_0]; exact h o ho
/-- DIFFERENCES of one QUERY: went (false), then came (true) -/
def tlL (nB sB : Nat → Bool) (q : Nat) (cm : Bool) : Nat → List (Nat × Nat × Bool)
  | 0 => []
  | o + 1 => tlL nB sB q cm o ++ (if nB o = cm ∧ ¬ sB o = cm then [(q, o, cm)] else [])
theorem tlL_len (nB sB : Nat → Bool) (q : Nat) : ∀ o : Nat, (tlL nB sB q false o).length + (tlL nB sB q true o).length ≤ o
  | 0 => Nat.le_refl 0
  | o + 1 => by
    have := tlL_len nB sB q o
    simp only [tlL, List.length_append]
    cases nB o <;> cases sB o <;> simp <;> omega
def dfl (sB nB : Nat → Nat → Bool) : Nat → List (Nat × Nat × Bool)
  | 0 => []
  | q + 1 => dfl sB nB q ++ (tlL (nB q) (sB q) q false 60 ++ tlL (nB q) (sB q) q true 60)
theorem dfl_len (sB nB : Nat → Nat → Bool) : ∀ q : Nat, (dfl sB nB q).length ≤ 60 * q
  | 0 => Nat.le_refl 0
  | q + 1 => by
    have := dfl_len sB nB q
    have := tlL_len (nB q) (sB q) q 60
    simp only [dfl, List.length_append]
    omega
def dfR (D : List (Nat × Nat × Bool)) (df : Nat → Int32) : Prop := ∀ i x, D[i]? = some x → df (3 * i) = nI x.1 ∧ df (3 * i + 1) = nI x.2.1 ∧ df (3 * i + 2) = bI x.2.2
theorem dfR_app {D : List (Nat × Nat × Bool)} {df : Nat → Int32} {a b : Nat} {c : Bool} {v : Int32} (h : dfR D df) (hv : v = bI c) : dfR (D ++ [(a, b, c)]) (upd (upd (upd df (3 * D.length) (nI a)) (3 * D.length + 1) (nI b)) (3 * D.length + 2) v) := by
  intro i x hx
  by_cases hi : i < D.length
  · rw [List.getElem?_append_left hi] at hx
    obtain ⟨h1, h2, h3⟩ := h i x hx
    refine ⟨?_, ?_, ?_⟩
    · rw [pk_un (by omega), pk_un (by omega), pk_un (by omega)]; exact h1
    · rw [pk_un (by omega), pk_un (by omega), pk_un (by omega)]; exact h2
    · rw [pk_un (by omega), pk_un (by omega), pk_un (by omega)]; exact h3
  · rw [List.getElem?_append_right (by omega)] at hx
    have hz : i - D.length < 1 := (List.getElem?_eq_some_iff.mp hx).1
    have hi2 : i = D.length := by omega
    subst hi2
    rw [Nat.sub_self] at hx
    cases hx
    refine ⟨?_, ?_, ?_⟩
    · rw [pk_un (by omega), pk_un (by omega), pk_us]
    · rw [pk_un (by omega), pk_us]
    · rw [pk_us]; exact hv
theorem tl_yes {nB sB : Nat → Bool} {q o : Nat} {cm : Bool} (h1 : nB o = cm) (h2 : ¬ sB o = cm) : tlL nB sB q cm (o + 1) = tlL nB sB q cm o ++ [(q, o, cm)] := by simp [tlL, h1, h2]
theorem tl_no {nB sB : Nat → Bool} {q o : Nat} {cm : Bool} (h : ¬ (nB o = cm ∧ ¬ sB o = cm)) : tlL nB sB q cm (o + 1) = tlL nB sB q cm o := by simp [tlL, h]
theorem tlL_le (nB sB : Nat → Bool) (q : Nat) (cm : Bool) {o : Nat} : ∀ p : Nat, o ≤ p → (tlL nB sB q cm o).length ≤ (tlL nB sB q cm p).length
  | 0, h => by rw [show o = 0 by omega]; exact Nat.le_refl _
  | p + 1, h => by
    rcases Nat.lt_or_ge o (p + 1) with z | z
    · have := tlL_le nB sB q cm p (show o ≤ p by omega)
      simp only [tlL, List.length_append] at *
      omega
    · rw [show o = p + 1 by omega]; exact Nat.le_refl _
theorem shN_n {c n : Nat} (h : c = 0 ∨ n < c) : shN c n = n := by simp [shN, h]
theorem shN_c {c n : Nat} (h0 : ¬ c = 0) (h : c ≤ n) : shN c n = c := by unfold shN; rw [if_neg (by omega)]
def nBf (S : zS) (m : Nat) (eq : Nat → Nat → Nat) (cq : Nat → Nat) : Nat → Nat → Bool := fun q o => dS S m q (eq q) (cq q) o
def mtl (S : zS) (d : Int32) (df : Nat → Int32) : zS := (fun i => if i = 4 then d else S.1 i, S.2.1, fun i => if i = 13 then df else S.2.2.1 i, S.2.2.2)
theorem nI_2 (a : Nat) : nI a + 2 = nI (a + 2) := nI_add a 2

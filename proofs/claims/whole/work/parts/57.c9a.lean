def rdw (E : zE) (r : Nat → Nat) (x_tape : Nat) (x_plan : Value) (S : zS) : va_W := [(r 0, .inr (3, [.ref x_tape, x_plan, .int (zi S 0)]))]
/-! the Reader of the class: nodes, built from what the pure reader lays -/
abbrev zNd : Type := Nat × Int32 × Int32
abbrev zK : Type := Nat ⊕ Nat
def opC (o : Nat) : Nat := [48, 0, 0, 97, 98, 99, 110, 105, 116, 95, 43, 45, 42, 47, 37, 61, 35, 60, 62, 38, 124, 33].getD o 0
def bNew (N : List zNd) (c : Nat) (a b : Int32) (st : List zK) : Option (List zNd × List zK) := some (N ++ [(c, a, b)], .inr N.length :: st)
def bS (x : Nat × Nat) (s : List zNd × List zK) : Option (List zNd × List zK) :=
  if x.1 = 0 then bNew s.1 48 (nI x.2) 0 s.2
  else if x.1 = 1 then some (s.1, .inl 0 :: s.2)
  else match s.2 with
  | [] => none
  | .inl k :: st => if x.1 = 2 then some (s.1, .inl (k + 1) :: st) else if 3 ≤ x.1 ∧ x.1 ≤ 7 then bNew s.1 (opC x.1) (nI k) (-1) st else none
  | .inr b :: st => if x.1 = 9 ∨ x.1 = 21 then bNew s.1 (opC x.1) (nI b) (nI b) st else match st with
    | [] => none
    | .inl k :: st => if x.1 = 8 then bNew s.1 116 (nI k) (nI b) st else none
    | .inr a :: st => if 10 ≤ x.1 ∧ x.1 ≤ 20 then bNew s.1 (opC x.1) (nI a) (nI b) st else none
def bL : List (Nat × Nat) → List zNd × List zK → Option (List zNd × List zK)
  | [], s => some s
  | x :: c, s => (bS x s).bind (bL c)
theorem bL_app : ∀ (c d : List (Nat × Nat)) (s : List zNd × List zK), bL (c ++ d) s = (bL c s).bind (bL d)
  | [], d, s => rfl
  | x :: c, d, s => by
    simp only [List.cons_append, bL]
    cases bS x s with
    | none => rfl
    | some t => exact bL_app c d t
def BL (N : List zNd) (c : List (Nat × Nat)) (N' : List zNd) (j : Nat) : Prop := ∀ st, bL c (N, st) = some (N', .inr j :: st)
def BP (N : List zNd) (c : List (Nat × Nat)) (k : Nat) : Prop := ∀ st, bL c (N, st) = some (N, .inl k :: st)
theorem BL_num (N : List zNd) (v : Nat) : BL N [(0, v)] (N ++ [(48, nI v, 0)]) N.length := fun _ => rfl
theorem BP_0 (N : List zNd) : BP N [(1, 0)] 0 := fun _ => rfl
theorem BP_s {N : List zNd} {c : List (Nat × Nat)} {k : Nat} (h : BP N c k) : BP N (c ++ [(2, 0)]) (k + 1) := fun st => by rw [bL_app, h st]; rfl
theorem BL_fld {N : List zNd} {c : List (Nat × Nat)} {k f : Nat} (h : BP N c k) (hf : 3 ≤ f ∧ f ≤ 7) : BL N (c ++ [(f, 0)]) (N ++ [(opC f, nI k, -1)]) N.length := fun st => by
  rw [bL_app, h st]
  have h0 : ¬ f = 0 := by omega
  have h1 : ¬ f = 1 := by omega
  have h2 : ¬ f = 2 := by omega
  simp [bL, bS, bNew, h0, h1, h2, hf]
theorem BL_item {N N3 : List zNd} {c c3 : List (Nat × Nat)} {k j : Nat} (h : BP N c k) (h3 : BL N c3 N3 j) : BL N (c ++ (c3 ++ [(8, 0)])) (N3 ++ [(116, nI k, nI j)]) N3.length := fun st => by
  rw [bL_app, h st, Option.bind_some, bL_app, h3]; rfl
theorem BL_un {N N3 : List zNd} {c : List (Nat × Nat)} {j f : Nat} (h : BL N c N3 j) (hf : f = 9 ∨ f = 21) : BL N (c ++ [(f, 0)]) (N3 ++ [(opC f, nI j, nI j)]) N3.length := fun st => by
  rw [bL_app, h st]
  rcases hf with rfl | rfl <;> rfl
theorem BL_bin {N N2 N3 : List zNd} {c c3 : List (Nat × Nat)} {i j f : Nat} (h : BL N c N2 i) (h3 : BL N2 c3 N3 j) (hf : 10 ≤ f ∧ f ≤ 20) : BL N (c ++ (c3 ++ [(f, 0)])) (N3 ++ [(opC f, nI i, nI j)]) N3.length := fun st => by
  rw [bL_app, h st, Option.bind_some, bL_app, h3]
  have h0 : ¬ f = 0 := by omega
  have h1 : ¬ f = 1 := by omega
  have h2 : ¬ (f = 9 ∨ f = 21) := by omega
  simp [bL, bS, bNew, h0, h1, h2, hf]
def hoN (N : List zNd) (o l r : Nat → Int32) : Prop := ∀ i x, N[i]? = some x → o i = nI x.1 ∧ l i = x.2.1 ∧ r i = x.2.2
theorem hoN_add {N : List zNd} {o l r : Nat → Int32} (h : hoN N o l r) {c : Nat} {c' a b : Int32} (hc : c' = nI c) : hoN (N ++ [(c, a, b)]) (upd o N.length c') (upd l N.length a) (upd r N.length b) := by
  intro i x hx
  by_cases hi : i < N.length
  · rw [List.getElem?_append_left hi] at hx
    rw [pk_un (by omega), pk_un (by omega), pk_un (by omega)]
    exact h i x hx
  · rw [List.getElem?_append_right (by omega)] at hx
    have h1 : i - N.length < 1 := (List.getElem?_eq_some_iff.mp hx).1
    have h2 : i = N.length := by omega
    subst h2
    rw [Nat.sub_self] at hx
    cases hx
    rw [pk_us, pk_us, pk_us]
    exact ⟨hc, rfl, rfl⟩
theorem len_add (N : List zNd) (x : zNd) : (N ++ [x]).length = N.length + 1 := by simp
def mrd (S : zS) (p : Int32) : zS := (fun i => if i = 0 then p else S.1 i, S.2)
def mpv (S : zS) (c : Int32) (o l r : Nat → Int32) : zS := (fun i => if i = 0 then c else S.1 i, S.2.1, fun i => if i = 1 then o else if i = 2 then l else if i = 3 then r else S.2.2.1 i, S.2.2.2)
def tpC (S : zS) (tp : Nat) (sx : Nat → Nat) : Prop := zi S 0 = nI tp ∧ tp ≤ 80 ∧ (∀ k : Nat, k < tp → za S 1 k = nI (sx k)) ∧ (∀ k : Nat, tp ≤ k → sx k = 0) ∧ ∀ k : Nat, sx k < 127
theorem nar_ch {k : Nat} (h : k < 127) : vp_nar .char (nI k) = nI k := by
  have : ∀ j : Fin 127, vp_nar .char (nI j.val) = nI j.val := by decide +kernel
  exact this ⟨k, h⟩
theorem isD_ne {c d : Nat} (h : isD c = true) (hd : isD d = false) : ¬ c = d := fun e => by rw [e, hd] at h; exact absurd h (by decide)
abbrev prc (n : Nat) : Room := { frames := 2 * n + 4, cells := 0, slots := 0, locals := 60 * n + 100 }
abbrev prd (n : Nat) : Room := { frames := 2 * n + 5, cells := 0, slots := 0, locals := 60 * n + 130 }
def cFin (sx : Nat → Nat) (N : List zNd) (p : Nat) (R : zRs) (v : Int32) (N' : List zNd) : Prop := N'.length + p ≤ N.length + R.2.1 ∧ (R.1 = true → ∃ j : Nat, v = nI j ∧ j < N'.length ∧ BL N R.2.2 N' j) ∧ (R.1 = false → v = -1 ∨ (¬ v = -1 ∧ isD (sx R.2.1) = true))
def cpost (E : zE) (r rt rp : Nat → Nat) (S ST SP : zS) (sx : Nat → Nat) (N : List zNd) (p : Nat) (R : zRs) : Option Value → va_W → Prop := fun v_ w_ => ∃ v : Int32, ∃ N' : List zNd, ∃ o' : Nat → Int32, ∃ l' : Nat → Int32, ∃ r' : Nat → Int32, v_ = some (.int v) ∧ w_ = rdw E r (rt 0) (.ref (rp 0)) (mrd S (nI R.2.1)) ++ tpw E rt ST ++ plw E rp (mpv SP (nI N'.length) o' l' r') ∧ (hoN N' o' l' r') ∧ (cFin sx N p R v N')
def cC (l : Launch) (E : zE) (r rt rp : Nat → Nat) (S ST SP : zS) (tp : Nat) (sx : Nat → Nat) (y : MethodName) (b : ByteArray) (nl : Nat) (H : Nat → Nat → zRs → Prop) (n : Nat) : Prop := ∀ (p op : Nat) (N : List zNd) (o1 l1 r1 : Nat → Int32) (R : zRs), H p op R → p ≤ tp → N.length ≤ p → op ≤ 12 → hoN N o1 l1 r1 → Ct l y b nl (some .int) (prc n) E (rdw E r (rt 0) (.ref (rp 0)) (mrd S (nI p)) ++ tpw E rt ST ++ plw E rp (mpv SP (nI N.length) o1 l1 r1)) [.ref (r 0), .int (nI op)] (cpost E r rt rp S ST SP sx N p R)
section CCS
variable {l : Launch} {E : zE} {r rt rp : Nat → Nat} {S ST SP : zS} {tp : Nat} {sx : Nat → Nat} {y : MethodName} {b : ByteArray} {nl : Nat} {H : Nat → Nat → zRs → Prop} {n p op p1 : Nat} {N : List zNd} {o1 l1 r1 : Nat → Int32} {c1 : List (Nat × Nat)}
theorem cC_y (h : cC l E r rt rp S ST SP tp sx y b nl H n) (hH : H p op (true, p1, c1)) (hp : p ≤ tp) (hN : N.length ≤ p) (ho : op ≤ 12) (hh : hoN N o1 l1 r1) : Ct l y b nl (some .int) (prc n) E (rdw E r (rt 0) (.ref (rp 0)) (mrd S (nI p)) ++ tpw E rt ST ++ plw E rp (mpv SP (nI N.length) o1 l1 r1)) [.ref (r 0), .int (nI op)] (fun v_ w_ => ∃ j : Nat, ∃ N' : List zNd, ∃ o' : Nat → Int32, ∃ l' : Nat → Int32, ∃ r' : Nat → Int32, v_ = some (.int (nI j)) ∧ w_ = rdw E r (rt 0) (.ref (rp 0)) (mrd S (nI p1)) ++ tpw E rt ST ++ plw E rp (mpv SP (nI N'.length) o' l' r') ∧ (hoN N' o' l' r') ∧ (N'.length + p ≤ N.length + p1) ∧ (j < N'.length) ∧ (BL N c1 N' j)) := by
  refine Ct.mono (h p op N o1 l1 r1 _ hH hp hN ho hh) ?_
  rintro v w ⟨v', N', o', l', r', rfl, rfl, h1, h2, h3, -⟩
  obtain ⟨j, rfl, hj, hb⟩ := h3 rfl
  exact ⟨j, N', o', l', r', rfl, rfl, h1, h2, hj, hb⟩
theorem cC_n (h : cC l E r rt rp S ST SP tp sx y b nl H n) (hH : H p op (false, p1, c1)) (hp : p ≤ tp) (hN : N.length ≤ p) (ho : op ≤ 12) (hh : hoN N o1 l1 r1) : Ct l y b nl (some .int) (prc n) E (rdw E r (rt 0) (.ref (rp 0)) (mrd S (nI p)) ++ tpw E rt ST ++ plw E rp (mpv SP (nI N.length) o1 l1 r1)) [.ref (r 0), .int (nI op)] (fun v_ w_ => ∃ v : Int32, ∃ N' : List zNd, ∃ o' : Nat → Int32, ∃ l' : Nat → Int32, ∃ r' : Nat → Int32, v_ = some (.int v) ∧ w_ = rdw E r (rt 0) (.ref (rp 0)) (mrd S (nI p1)) ++ tpw E rt ST ++ plw E rp (mpv SP (nI N'.length) o' l' r') ∧ (hoN N' o' l' r') ∧ (N'.length + p ≤ N.length + p1) ∧ (v = -1 ∨ (¬ v = -1 ∧ isD (sx p1) = true))) := by
  refine Ct.mono (h p op N o1 l1 r1 _ hH hp hN ho hh) ?_
  rintro v w ⟨v', N', o', l', r', rfl, rfl, h1, h2, -, h3⟩
  exact ⟨v', N', o', l', r', rfl, rfl, h1, h2, h3 rfl⟩
end CCS
section CFE
variable {E : zE} {r rt rp : Nat → Nat} {S ST SP : zS} {sx : Nat → Nat} {N N' : List zNd} {p p2 j : Nat} {R : zRs} {v : Int32} {o' l' r' : Nat → Int32} {c0 : List (Nat × Nat)}
/-- a reading's end -/
theorem ce_y (he1 : true = R.1) (he2 : p2 = R.2.1) (he3 : c0 = R.2.2) (hh : hoN N' o' l' r') (hl : N'.length + p ≤ N.length + p2) (hv : v = nI j) (hj : j < N'.length) (hb : BL N c0 N' j) : cpost E r rt rp S ST SP sx N p R (some (.int v)) (rdw E r (rt 0) (.ref (rp 0)) (mrd S (nI p2)) ++ tpw E rt ST ++ plw E rp (mpv SP (nI N'.length) o' l' r')) := by
  subst he2; subst he3
  exact ⟨v, N', o', l', r', rfl, rfl, hh, hl, fun _ => ⟨j, hv, hj, hb⟩, fun h => by rw [← he1] at h; exact Bool.noConfusion h⟩
theorem ce_n (he1 : false = R.1) (he2 : p2 = R.2.1) (hh : hoN N' o' l' r') (hl : N'.length + p ≤ N.length + p2) (hv : v = -1 ∨ (¬ v = -1 ∧ isD (sx p2) = true)) : cpost E r rt rp S ST SP sx N p R (some (.int v)) (rdw E r (rt 0) (.ref (rp 0)) (mrd S (nI p2)) ++ tpw E rt ST ++ plw E rp (mpv SP (nI N'.length) o' l' r')) := by
  subst he2
  exact ⟨v, N', o', l', r', rfl, rfl, hh, hl, fun h => (by rw [← he1] at h; exact Bool.noConfusion h), fun _ => hv⟩
end CFE
/-- a loop of the Reader: on the way, or at a fault -/
def cLp (sx : Nat → Nat) (lmd op n : Nat) (N N2 : List zNd) (p2 : Nat) (all : Int32) (R : zRs) : Prop := (∃ j k : Nat, ∃ c0 : List (Nat × Nat), ∃ R4 : zRs, all = nI j ∧ j < N2.length ∧ k ≤ n ∧ ps sx k lmd p2 op = some R4 ∧ R4.1 = R.1 ∧ R4.2.1 = R.2.1 ∧ c0 ++ R4.2.2 = R.2.2 ∧ BL N c0 N2 j) ∨ (false = R.1 ∧ p2 = R.2.1 ∧ (all = -1 ∨ (¬ all = -1 ∧ isD (sx p2) = true)))
theorem BLc {N N2 : List zNd} {c0 : List (Nat × Nat)} {j : Nat} (h : BL N c0 N2 j) : BL N (c0 ++ []) N2 j := by rw [List.append_nil]; exact h
theorem addO_r (c : Nat) : 10 ≤ addO c ∧ addO c ≤ 20 := by unfold addO; split <;> decide
theorem addO_c {c : Nat} (h : c = 43 ∨ c = 45) : opC (addO c) = c := by rcases h with rfl | rfl <;> rfl
theorem mulO_r (c : Nat) : 10 ≤ mulO c ∧ mulO c ≤ 20 := by unfold mulO; split <;> (try split) <;> decide
theorem mulO_c {c : Nat} (h : c = 42 ∨ c = 47 ∨ c = 37) : opC (mulO c) = c := by rcases h with rfl | rfl | rfl <;> rfl
theorem cmpO_r (c : Nat) : 10 ≤ cmpO c ∧ cmpO c ≤ 20 := by unfold cmpO; split <;> (try split) <;> (try split) <;> decide
theorem cmpO_c {c : Nat} (h : c = 61 ∨ c = 35 ∨ c = 60 ∨ c = 62) : opC (cmpO c) = c := by rcases h with rfl | rfl | rfl | rfl <;> rfl
theorem fldO_r {c : Nat} (h : ¬ fldO c = 0) : 3 ≤ fldO c ∧ fldO c ≤ 7 := by unfold fldO at *; split <;> (try split) <;> (try split) <;> (try split) <;> (try split) <;> simp_all
theorem fldO_c {c : Nat} (h : c = 97 ∨ c = 98 ∨ c = 99 ∨ c = 110 ∨ c = 105) : opC (fldO c) = c ∧ ¬ fldO c = 0 := by rcases h with rfl | rfl | rfl | rfl | rfl <;> decide
theorem cFin_w {sx : Nat → Nat} {N N' : List zNd} {p p' : Nat} {R : zRs} {v : Int32} (hp : p' ≤ p) (h : cFin sx N p R v N') : cFin sx N p' R v N' := ⟨by have := h.1; omega, h.2⟩
theorem ce_b {E : zE} {r rt rp : Nat → Nat} {S ST SP : zS} {sx : Nat → Nat} {N N' : List zNd} {p p2 j : Nat} {v : Int32} {o' l' r' : Nat → Int32} {c0 : List (Nat × Nat)} (hh : hoN N' o' l' r') (hl : N'.length + p ≤ N.length + p2) (hv : v = nI j) (hj : j < N'.length) (hj2 : N'.length < 2 ^ 31) (hb : BL N c0 N' j) : cpost E r rt rp S ST SP sx N p (!isD (sx p2), p2, c0) (some (.int v)) (rdw E r (rt 0) (.ref (rp 0)) (mrd S (nI p2)) ++ tpw E rt ST ++ plw E rp (mpv SP (nI N'.length) o' l' r')) := by
  refine ⟨v, N', o', l', r', rfl, rfl, hh, hl, fun _ => ⟨j, hv, hj, hb⟩, fun h => Or.inr ⟨by rw [hv]; exact nI_nm (by omega), ?_⟩⟩
  simpa using h
theorem nlt12 {op : Nat} (h : op ≤ 12) (hn : ¬ nI op < 12) : op = 12 := by
  rcases Nat.lt_or_ge op 12 with q | q
  · exact absurd (nI_lt (b := 12) q (by decide)) hn
  · omega

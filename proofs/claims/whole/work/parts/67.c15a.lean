def kpw (E : zE) (r : Nat → Nat) (x_plan : Nat) (x_groups : Nat) (x_store : Nat) (x_worker : Nat) (S : zS) : va_W := [(r 0, .inr (1, [.ref x_plan, .ref x_groups, .ref x_store, .ref x_worker, .ref (r 1), .ref (r 2), .ref (r 3), .ref (r 4), .ref (r 5), .ref (r 6), .int (zi S 0), .long (zl S 0), .long (zl S 1), .long (zl S 2)])), (r 1, .inl (E.2 1, 60, .inr (.inl (zb S 1)))), (r 2, .inl (E.2 2, 60, .inl (za S 2))), (r 3, .inl (E.2 1, 60, .inr (.inl (zb S 3)))), (r 4, .inl (E.2 1, 60, .inr (.inl (zb S 4)))), (r 5, .inl (E.2 1, 60, .inr (.inl (zb S 5)))), (r 6, .inl (E.2 0, 60, .inl (za S 6)))]
/-! Kept: a QUERY and what it tells -/
def mkp (S : zS) (oc : Int32) (sh we ca : Int64) (hg : Nat → Int64) (inn : Nat → Int32) (ky gv am : Nat → Int64) (od : Nat → Int32) : zS := (fun i => if i = 0 then oc else S.1 i, fun i => if i = 0 then sh else if i = 1 then we else if i = 2 then ca else S.2.1 i, fun i => if i = 2 then inn else if i = 6 then od else S.2.2.1 i, fun i => if i = 1 then hg else if i = 3 then ky else if i = 4 then gv else if i = 5 then am else S.2.2.2 i)
def bfB (ky : Nat → Int64) (a b : Nat) : Bool := if ky a = ky b then decide (a < b) else decide (ky a < ky b)
def bitL (x : Int64) (u : Nat) : Bool := decide (¬ ((x.toUInt64 >>> ((nI u).toInt64.toUInt64 &&& Int64.toUInt64 63)).toInt64 &&& 1) = 0)
def hoO (ord : List Nat) (od : Nat → Int32) : Prop := ∀ i x, ord[i]? = some x → od i = nI x
/-- the first i of the order without o, what lies behind untouched -/
def tkO (ord : List Nat) (o i : Nat) (od : Nat → Int32) : Prop := hoO ((ord.take i).filter (fun x => decide (¬ x = o))) od ∧ ∀ j x, i ≤ j → ord[j]? = some x → od j = nI x
theorem tkO_0 {ord : List Nat} {o : Nat} {od : Nat → Int32} (h : hoO ord od) : tkO ord o 0 od := ⟨fun i x hx => by simp at hx, fun j x _ hx => h j x hx⟩
theorem fi_le (ord : List Nat) (o i : Nat) : ((ord.take i).filter (fun x => decide (¬ x = o))).length ≤ i := Nat.le_trans (List.length_filter_le _ _) (by rw [List.length_take]; omega)
theorem fi_s {ord : List Nat} {o i x : Nat} (h : ord[i]? = some x) : (ord.take (i + 1)).filter (fun x => decide (¬ x = o)) = (ord.take i).filter (fun x => decide (¬ x = o)) ++ (if x = o then [] else [x]) := by
  rw [List.take_succ, h, List.filter_append]
  by_cases e : x = o
  · simp [e]
  · simp [e]
theorem tkO_n {ord : List Nat} {o i x : Nat} {od : Nat → Int32} (h : tkO ord o i od) (hx : ord[i]? = some x) (e : x = o) : tkO ord o (i + 1) od := by
  refine ⟨?_, fun j y hj hy => h.2 j y (by omega) hy⟩
  rw [fi_s hx, if_pos e, List.append_nil]; exact h.1
theorem tkO_y {ord : List Nat} {o i x : Nat} {od : Nat → Int32} (h : tkO ord o i od) (hx : ord[i]? = some x) (e : ¬ x = o) : tkO ord o (i + 1) (upd od ((ord.take i).filter (fun x => decide (¬ x = o))).length (nI x)) := by
  have hl := fi_le ord o i
  refine ⟨?_, fun j y hj hy => by rw [pk_un (by omega)]; exact h.2 j y (by omega) hy⟩
  rw [fi_s hx, if_neg e]
  intro k y hk
  by_cases q : k < ((ord.take i).filter (fun x => decide (¬ x = o))).length
  · rw [List.getElem?_append_left q] at hk
    rw [pk_un (by omega)]; exact h.1 k y hk
  · rw [List.getElem?_append_right (by omega)] at hk
    have h1 := (List.getElem?_eq_some_iff.mp hk).1
    have h2 : k = ((ord.take i).filter (fun x => decide (¬ x = o))).length := by rw [List.length_singleton] at h1; omega
    rw [h2, Nat.sub_self] at hk
    cases hk
    rw [h2]; exact pk_us
/-- the order from the i-th on moved one up -/
def shO (ord : List Nat) (i : Nat) (od : Nat → Int32) : Prop := ∀ j x, ord[j]? = some x → (j < i → od j = nI x) ∧ (i ≤ j → od (j + 1) = nI x)
theorem shO_0 {ord : List Nat} {od : Nat → Int32} (h : hoO ord od) : shO ord ord.length od := fun j x hx => ⟨fun _ => h j x hx, fun q => absurd (List.getElem?_eq_some_iff.mp hx).1 (by omega)⟩
theorem shO_s {ord : List Nat} {i x : Nat} {od : Nat → Int32} (h : shO ord (i + 1) od) (hx : ord[i]? = some x) : shO ord i (upd od (i + 1) (nI x)) := by
  intro j y hy
  obtain ⟨h1, h2⟩ := h j y hy
  refine ⟨fun q => by rw [pk_un (by omega)]; exact h1 (by omega), fun q => ?_⟩
  by_cases e : j = i
  · subst e; rw [hx] at hy; cases hy; exact pk_us
  · rw [pk_un (by omega)]; exact h2 (by omega)
theorem shO_in {ord : List Nat} {i o : Nat} {od : Nat → Int32} (h : shO ord i od) (hi : i ≤ ord.length) : hoO (ord.take i ++ o :: ord.drop i) (upd od i (nI o)) := by
  intro j y hy
  have hl : (ord.take i).length = i := by simp; omega
  by_cases q : j < i
  · rw [List.getElem?_append_left (by omega), List.getElem?_take_of_lt q] at hy
    rw [pk_un (by omega)]; exact (h j y hy).1 q
  · rw [List.getElem?_append_right (by omega), hl] at hy
    by_cases e : j = i
    · subst e; rw [Nat.sub_self] at hy; cases hy; exact pk_us
    · obtain ⟨k, rfl⟩ : ∃ k, j = k + 1 := ⟨j - 1, by omega⟩
      rw [show k + 1 - i = (k - i) + 1 by omega, List.getElem?_cons_succ, List.getElem?_drop, show i + (k - i) = k by omega] at hy
      rw [pk_un (by omega)]; exact (h k y hy).2 (by omega)
theorem at_of {ord : List Nat} {i : Nat} (h : i < ord.length) : ∃ x, ord[i]? = some x := ⟨_, List.getElem?_eq_getElem h⟩
def mskL (l : List Nat) : Int64 := l.foldl note 0
theorem mskL_s {l : List Nat} {i x : Nat} (h : l[i]? = some x) : mskL (l.take (i + 1)) = note (mskL (l.take i)) x := by
  unfold mskL
  rw [List.take_succ, h, List.foldl_append]; rfl
def shwN (lm len : Nat) : Nat := if lm = 0 then len else if len < lm then len else lm
def ctB (f : Nat → Bool) : Nat → Nat
  | 0 => 0
  | n + 1 => ctB f n + (if f n then 1 else 0)
theorem ctB_le (f : Nat → Bool) : ∀ n : Nat, ctB f n ≤ n
  | 0 => Nat.le_refl _
  | n + 1 => by have := ctB_le f n; simp only [ctB]; split <;> omega
/-- the k-th set bit below n, from the i-th on -/
def btA (f : Nat → Bool) (k : Nat) : Nat → Nat → Option Nat
  | 0, _ => none
  | n + 1, i => if f i then (if k = 0 then some i else btA f (k - 1) n (i + 1)) else btA f k n (i + 1)
section JDK
variable {l : Launch} {y : MethodName} {ws ws' : List Cond} {rm : Room} {Pc : Array Value → State → Prop} {Qc : Array Value → State → Outcome → State → Prop} {mc ms : Nat} {free : Addr → Prop} {cc : ByteArray} {maxL : Nat} {ret : Option FieldType}
/-- as Met.ofW, of a method whose class's name has slashes -/
theorem Met.ofWF (hy : plainFor y = true) (hw : ws = Cond.code y cc maxL ret :: ws')
    (body : ∀ p e s m args below meth c s₁, BodyLoose p l y (headSpec ws rm) cc maxL ret e s m args below meth c s₁ → c.maxLocals = maxL → Pc args s →
      W p l e (headSpec ws rm).room s m args below meth c s.heap [] 0 0 (MQ below Qc args s mc ms free) (entryFrame m args maxL)) : Met l y ws rm Pc Qc mc ms free := by
  refine MetFree.of_bodyRF (code := cc) (maxLocals := maxL) (ret := ret) hy ?_ ?_
  · intro args s m h hn
    obtain ⟨meth, c, h1, h2, h3, h4, h5, h6, -, -⟩ := Cond.code_spec hn (atoms_spec (ws := ws) h _ (by rw [hw]; exact List.mem_cons_self))
    exact ⟨meth, c, h1, h2, h3, h4, h5, h6⟩
  · intro p e s m args below meth c s₁ B hml hP _ hs0
    have hh0 : s₁.heap = s.heap := by rw [B.state]; rfl
    obtain ⟨t, a1, o, b1, b2, b3⟩ := body p e s m args below meth c s₁ B hml hP s₁ hh0 (Stand.of_body B)
    exact ⟨t, o, hs0.trans a1, b1, b2, ⟨b3.1, b3.2⟩⟩
end JDK
theorem Ct.ofF {l : Launch} {y : MethodName} {b : ByteArray} {nl : Nat} {rt : Option FieldType} {rm : Room} {E : zE} {w0 : va_W} {as : List Value} {post : Option Value → va_W → Prop} (hy : plainFor y = true) (ha : (lg_sl as).length ≤ nl) {lv : List (Nat × Value)} (hlv : lv_args 0 as = lv)
    (body : ∀ X : zT, zF X l rm E b nl y.cls → zR X rt post rm.cells rm.slots → Z X 0 0 w0 lv 0 []) : Ct l y b nl rt rm E w0 as post := by
  intro sz
  refine Met.ofWF (cc := b) (maxL := nl) (ret := rt) hy rfl ?_
  intro p e s m args below meth c s₁ B hml hv
  obtain ⟨rfl, hsz, hP, hK, hD0, hNw⟩ := hv
  subst hsz
  have hts := atoms_spec (ws := ctW y b nl rt) B.pre
  have hown : s.vm.findClass y.cls = some m.cls := findClass_of_methodNamed B.named
  have K := body (p, l, e, rm, s, m, as.toArray, below, meth, c, E, va_A w0 s.heap.size, nl, MQ below (ctQ E w0 s.heap.size post) as.toArray s rm.cells rm.slots (va_A w0 s.heap.size))
    ⟨rfl, rfl, rfl, rfl, B.exec, B.bytes, hml, hown, fun w hw => hts w (List.mem_cons_of_mem _ hw), hK, fun q h => Or.inr h, B.notSynchronized, hNw⟩ ⟨B.returns, w0, rfl, rfl⟩
  have hl := lv_entry as (n := nl) ha
  rw [lg_entry_eq]
  generalize (lg_sl as ++ List.replicate (nl - (lg_sl as).length) Slot.unset).toArray = ls at hl ⊢
  exact K s.heap [] ls hP hD0.self va_S.rf (by rw [← hlv]; exact hl)

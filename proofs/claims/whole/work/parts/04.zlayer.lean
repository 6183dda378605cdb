/-! The Z layer: W with the world, the locals and the fixed facts of an activation bundled. -/
/-- the words that hold wherever the tables are the same -/
def lw_tb : List Cond := lw_tbl.filter goodWord
theorem lw_good : lw_tb.all goodWord = true := by
  refine List.all_eq_true.mpr fun w hw => ?_
  exact (List.mem_filter.mp hw).2
/-- words on private members of nest mates: they move with the caches -/
def nestB : Cond → Bool
  | .fieldLinkNest .. => true
  | .methodLinkNest .. => true
  | .arrayOver (.object _) => true
  | _ => false
def nwOk (U : State) : Prop := ∀ w ∈ lw_tbl, nestB w = true → va_Nw w U
theorem nwOk.moved {s U : State} (hW : s.WarmedH U.vm) (h : nwOk s) : nwOk U := by
  intro w hw hn
  have hz := h w hw hn
  cases w with
  | arrayOver t => cases t <;> first | exact va_AO.moved hW.alike hz | exact absurd hn (by simp [nestB])
  | _ => first | exact va_Nw.warmF hW hz | exact va_Nw.warmM hW hz | exact absurd hn (by simp [nestB])
theorem nwOk.same {u U : State} (e : u.vm = U.vm) (h : nwOk u) : nwOk U := by
  intro w hw hn
  have hz := h w hw hn
  cases w with
  | arrayOver t => cases t <;> first | exact va_AO.moved (by rw [e]; exact Vm.Alike.refl _) hz | exact absurd hn (by simp [nestB])
  | _ => first | exact va_Nw.same rfl e hz | exact absurd hn (by simp [nestB])
theorem nb {w : Cond} (i : Nat) (h : lw_tbl[i]? = some w) (hg : nestB w = true) : w ∈ lw_tbl ∧ nestB w = true := ⟨List.mem_of_getElem? h, hg⟩
theorem tb {w : Cond} (i : Nat) (h : lw_tbl[i]? = some w) (hg : goodWord w = true) : w ∈ lw_tb := List.mem_filter.mpr ⟨List.mem_of_getElem? h, hg⟩
abbrev zE : Type := va_G × (Nat → ClassId)
abbrev zty (cA : Nat → ClassId) : List (ClassId × FieldType) := [(cA 0, .int), (cA 1, .long), (cA 2, .boolean), (cA 3, .char), (cA 4, .object "LiveQueries$Kept")]
abbrev zT : Type := Program × Launch × Env × Room × State × MethodId × Array Value × List Frame × Method × Code × zE × (Nat → Prop) × Nat × (State → Prop)
def Z (X : zT) (k n : Nat) (ws : va_W) (lv : List (Nat × Value)) (pc : Nat) (st : List Value) : Prop :=
  match X with
  | (p, l, e, R, s, m, args, below, meth, c, E, A, nL, Q) => ∀ (H : Heap) (locs : List Loc) (ls : Array Slot), va_P E.1 vwCl ws H → va_D A ws → va_S A s.heap H locs → lv_has ls nL lv → W p l e R s m args below meth c H locs k n Q (F0 m pc ls st)
/-- the fixed facts: launch, room, environment, code, its class, the tables' words -/
def zF (X : zT) (l' : Launch) (rm : Room) (E' : zE) (cc : ByteArray) (nl : Nat) (own : String) : Prop :=
  match X with
  | (p, l, _, R, s, m, args, _, meth, c, E, A, nL, _) => l = l' ∧ R = rm ∧ E = E' ∧ nL = nl ∧ p.tables.exec = Jvm.exec ∧ c.code = cc ∧ c.maxLocals = nl ∧ s.vm.findClass own = some m.cls ∧ (∀ w ∈ lw_tb, w.before args s = true) ∧ va_K E.1 vwCl (zty E.2) s ∧ (∀ q : Nat, s.heap.size ≤ q → A q) ∧ meth.locks = false ∧ nwOk s
/-- a method's end -/
def ctQ (E : zE) (w0 : va_W) (sz : Nat) (post : Option Value → va_W → Prop) : Array Value → State → Outcome → State → Prop := fun _ st oc t => (∃ (v : Option Value) (w1 : va_W), oc = .returned v ∧ post v w1 ∧ va_P E.1 vwCl w1 t.heap ∧ va_D (va_A w0 sz) w1) ∧ va_F (va_A w0 sz) st t
def zR (X : zT) (rt : Option FieldType) (post : Option Value → va_W → Prop) (mc ms : Nat) : Prop :=
  match X with
  | (_, _, _, _, s, _, args, below, meth, _, E, A, _, Q) => meth.sig.returnType = rt ∧ ∃ w0 : va_W, A = va_A w0 s.heap.size ∧ Q = MQ below (ctQ E w0 s.heap.size post) args s mc ms A
abbrev ctW (y : MethodName) (b : ByteArray) (nl : Nat) (rt : Option FieldType) : List Cond := .code y b nl rt :: lw_tb
/-- a contract: world and arguments before, answer and world behind -/
def Ct (l : Launch) (y : MethodName) (b : ByteArray) (nl : Nat) (rt : Option FieldType) (rm : Room) (E : zE) (w0 : va_W) (as : List Value) (post : Option Value → va_W → Prop) : Prop :=
  ∀ sz : Nat, Met l y (ctW y b nl rt) rm (va_Pc as (fun U => U.heap.size = sz ∧ va_P E.1 vwCl w0 U.heap ∧ va_K E.1 vwCl (zty E.2) U ∧ va_D (fun _ => True) w0 ∧ nwOk U)) (ctQ E w0 sz post) rm.cells rm.slots (va_A w0 sz)
theorem Ct.of {l : Launch} {y : MethodName} {b : ByteArray} {nl : Nat} {rt : Option FieldType} {rm : Room} {E : zE} {w0 : va_W} {as : List Value} {post : Option Value → va_W → Prop} (hy : plainName y.cls = true) (ha : (lg_sl as).length ≤ nl) {lv : List (Nat × Value)} (hlv : lv_args 0 as = lv)
    (body : ∀ X : zT, zF X l rm E b nl y.cls → zR X rt post rm.cells rm.slots → Z X 0 0 w0 lv 0 []) : Ct l y b nl rt rm E w0 as post := by
  intro sz
  refine Met.ofW (cc := b) (maxL := nl) (ret := rt) hy rfl ?_
  intro p e s m args below meth c s₁ B hml hv
  obtain ⟨rfl, hsz, hP, hK, hD0, hNw⟩ := hv
  subst hsz
  have hts := atoms_spec (ws := ctW y b nl rt) B.pre
  have hown : s.vm.findClass y.cls = some m.cls := findClass_of_methodNamed B.named
  have K := body (p, l, e, rm, s, m, as.toArray, below, meth, c, E, va_A w0 s.heap.size, nl, MQ below (ctQ E w0 s.heap.size post) as.toArray s rm.cells rm.slots (va_A w0 s.heap.size))
    ⟨rfl, rfl, rfl, rfl, B.exec, B.bytes, hml, hown, fun w hw => hts w (List.mem_cons_of_mem _ hw), hK, fun q h => Or.inr h, B.notSynchronized, hNw⟩ ⟨B.returns, w0, rfl, rfl⟩
  have hl := lv_entry as (n := nl) ha
  rw [lg_entry_eq]
  generalize (lg_sl as ++ List.replicate (nl - (lg_sl as).length) Slot.unset).toArray = ls at hl ⊢
  exact K s.heap [] ls hP hD0.self va_S.rf (by rw [← hlv]; exact hl)
section ZROWS
variable {X : zT} {l : Launch} {rm : Room} {E : zE} {cc : ByteArray} {nl : Nat} {own : String} {k n : Nat} {ws : va_W} {lv : List (Nat × Value)} {pc : Nat} {st : List Value}
theorem z_iconst (F : zF X l rm E cc nl own) {i : Int} {v : Int32} (hd : decode cc pc = .ok (.iconst i, 1)) (hv : Int32.ofInt i = v) (K : Z X k n ws lv (pc + 1) (.int v :: st)) : Z X k n ws lv pc (st) := by
  obtain ⟨p, l, e, R, s, m, args, below, meth, c, E, A, nL, Q⟩ := X
  obtain ⟨rfl, rfl, rfl, rfl, hx, hb, hml, hown, hts, hK, hA, hlk, hnw⟩ := F
  intro H locs ls hP hD hS hl
  exact lv_iconst hx hb hd hv (K H locs ls hP hD hS hl)
theorem z_bipush (F : zF X l rm E cc nl own) {i : Int} {v : Int32} (hd : decode cc pc = .ok (.bipush i, 2)) (hv : (Int8.ofInt i).toInt32 = v) (K : Z X k n ws lv (pc + 2) (.int v :: st)) : Z X k n ws lv pc (st) := by
  obtain ⟨p, l, e, R, s, m, args, below, meth, c, E, A, nL, Q⟩ := X
  obtain ⟨rfl, rfl, rfl, rfl, hx, hb, hml, hown, hts, hK, hA, hlk, hnw⟩ := F
  intro H locs ls hP hD hS hl
  exact lv_bipush hx hb hd hv (K H locs ls hP hD hS hl)
theorem z_sipush (F : zF X l rm E cc nl own) {i : Int} {v : Int32} (hd : decode cc pc = .ok (.sipush i, 3)) (hv : (Int16.ofInt i).toInt32 = v) (K : Z X k n ws lv (pc + 3) (.int v :: st)) : Z X k n ws lv pc (st) := by
  obtain ⟨p, l, e, R, s, m, args, below, meth, c, E, A, nL, Q⟩ := X
  obtain ⟨rfl, rfl, rfl, rfl, hx, hb, hml, hown, hts, hK, hA, hlk, hnw⟩ := F
  intro H locs ls hP hD hS hl
  exact lv_sipush hx hb hd hv (K H locs ls hP hD hS hl)
theorem z_lconst (F : zF X l rm E cc nl own) {i : Fin 2} {v : Int64} (hd : decode cc pc = .ok (.lconst i, 1)) (hv : Int64.ofNat (i : Nat) = v) (K : Z X k n ws lv (pc + 1) (.long v :: st)) : Z X k n ws lv pc (st) := by
  obtain ⟨p, l, e, R, s, m, args, below, meth, c, E, A, nL, Q⟩ := X
  obtain ⟨rfl, rfl, rfl, rfl, hx, hb, hml, hown, hts, hK, hA, hlk, hnw⟩ := F
  intro H locs ls hP hD hS hl
  exact lv_lconst hx hb hd hv (K H locs ls hP hD hS hl)
theorem z_ldc2 (F : zF X l rm E cc nl own) {i : Nat} {v : Int64} (hd : decode cc pc = .ok (.ldc2_w i, 3)) (hw : Cond.constantLong own i v ∈ lw_tb) (K : Z X k n ws lv (pc + 3) (.long v :: st)) : Z X k n ws lv pc (st) := by
  obtain ⟨p, l, e, R, s, m, args, below, meth, c, E, A, nL, Q⟩ := X
  obtain ⟨rfl, rfl, rfl, rfl, hx, hb, hml, hown, hts, hK, hA, hlk, hnw⟩ := F
  intro H locs ls hP hD hS hl
  exact lv_ldc2 hx hb hown (hts _ hw) hd (K H locs ls hP hD hS hl)
theorem z_iload_n (F : zF X l rm E cc nl own) {f : Fin 4} {i : Nat} {x : Int32} (hd : decode cc pc = .ok (.iload_n f, 1)) (hi : (f : Nat) = i) (j : Nat) (hj : lv[j]? = some (i, .int x)) (K : Z X k n ws lv (pc + 1) (.int x :: st)) : Z X k n ws lv pc (st) := by
  obtain ⟨p, l, e, R, s, m, args, below, meth, c, E, A, nL, Q⟩ := X
  obtain ⟨rfl, rfl, rfl, rfl, hx, hb, hml, hown, hts, hK, hA, hlk, hnw⟩ := F
  intro H locs ls hP hD hS hl
  exact lv_iload_n hx hb hd hi (lv_at hl j hj) (K H locs ls hP hD hS hl)
theorem z_iload (F : zF X l rm E cc nl own) {i : Nat} {x : Int32} (hd : decode cc pc = .ok (.iload i, 2)) (j : Nat) (hj : lv[j]? = some (i, .int x)) (K : Z X k n ws lv (pc + 2) (.int x :: st)) : Z X k n ws lv pc (st) := by
  obtain ⟨p, l, e, R, s, m, args, below, meth, c, E, A, nL, Q⟩ := X
  obtain ⟨rfl, rfl, rfl, rfl, hx, hb, hml, hown, hts, hK, hA, hlk, hnw⟩ := F
  intro H locs ls hP hD hS hl
  exact lv_iload hx hb hd (lv_at hl j hj) (K H locs ls hP hD hS hl)
theorem z_lload_n (F : zF X l rm E cc nl own) {f : Fin 4} {i : Nat} {x : Int64} (hd : decode cc pc = .ok (.lload_n f, 1)) (hi : (f : Nat) = i) (j : Nat) (hj : lv[j]? = some (i, .long x)) (K : Z X k n ws lv (pc + 1) (.long x :: st)) : Z X k n ws lv pc (st) := by
  obtain ⟨p, l, e, R, s, m, args, below, meth, c, E, A, nL, Q⟩ := X
  obtain ⟨rfl, rfl, rfl, rfl, hx, hb, hml, hown, hts, hK, hA, hlk, hnw⟩ := F
  intro H locs ls hP hD hS hl
  exact lv_lload_n hx hb hd hi (lv_at hl j hj) (K H locs ls hP hD hS hl)
theorem z_lload (F : zF X l rm E cc nl own) {i : Nat} {x : Int64} (hd : decode cc pc = .ok (.lload i, 2)) (j : Nat) (hj : lv[j]? = some (i, .long x)) (K : Z X k n ws lv (pc + 2) (.long x :: st)) : Z X k n ws lv pc (st) := by
  obtain ⟨p, l, e, R, s, m, args, below, meth, c, E, A, nL, Q⟩ := X
  obtain ⟨rfl, rfl, rfl, rfl, hx, hb, hml, hown, hts, hK, hA, hlk, hnw⟩ := F
  intro H locs ls hP hD hS hl
  exact lv_lload hx hb hd (lv_at hl j hj) (K H locs ls hP hD hS hl)
theorem z_aload_n (F : zF X l rm E cc nl own) {f : Fin 4} {i : Nat} {x : Nat} (hd : decode cc pc = .ok (.aload_n f, 1)) (hi : (f : Nat) = i) (j : Nat) (hj : lv[j]? = some (i, .ref x)) (K : Z X k n ws lv (pc + 1) (.ref x :: st)) : Z X k n ws lv pc (st) := by
  obtain ⟨p, l, e, R, s, m, args, below, meth, c, E, A, nL, Q⟩ := X
  obtain ⟨rfl, rfl, rfl, rfl, hx, hb, hml, hown, hts, hK, hA, hlk, hnw⟩ := F
  intro H locs ls hP hD hS hl
  exact lv_aload_n hx hb hd hi (lv_at hl j hj) (K H locs ls hP hD hS hl)
theorem z_aload (F : zF X l rm E cc nl own) {i : Nat} {x : Nat} (hd : decode cc pc = .ok (.aload i, 2)) (j : Nat) (hj : lv[j]? = some (i, .ref x)) (K : Z X k n ws lv (pc + 2) (.ref x :: st)) : Z X k n ws lv pc (st) := by
  obtain ⟨p, l, e, R, s, m, args, below, meth, c, E, A, nL, Q⟩ := X
  obtain ⟨rfl, rfl, rfl, rfl, hx, hb, hml, hown, hts, hK, hA, hlk, hnw⟩ := F
  intro H locs ls hP hD hS hl
  exact lv_aload hx hb hd (lv_at hl j hj) (K H locs ls hP hD hS hl)
theorem z_istore_n (F : zF X l rm E cc nl own) {f : Fin 4} {i : Nat} {x : Int32} {lv' : List (Nat × Value)} (hd : decode cc pc = .ok (.istore_n f, 1)) (hi : (f : Nat) = i) (hn : i < nl) (ks : List Nat) (hl' : lv_pick ((i, Value.int x) :: lv.filter (fun q => !(q.1 == i) && !(q.1 + 1 == i && q.2.category == 2))) ks = lv') (K : Z X k n ws lv' (pc + 1) st) : Z X k n ws lv pc (.int x :: st) := by
  obtain ⟨p, l, e, R, s, m, args, below, meth, c, E, A, nL, Q⟩ := X
  obtain ⟨rfl, rfl, rfl, rfl, hx, hb, hml, hown, hts, hK, hA, hlk, hnw⟩ := F
  intro H locs ls hP hD hS hl
  exact lv_istore_n hx hb hd hi hl hn rfl (fun ls' hl2 => K H locs ls' hP hD hS (lv_sub hl2 ks hl'))
theorem z_istore (F : zF X l rm E cc nl own) {i : Nat} {x : Int32} {lv' : List (Nat × Value)} (hd : decode cc pc = .ok (.istore i, 2)) (hn : i < nl) (ks : List Nat) (hl' : lv_pick ((i, Value.int x) :: lv.filter (fun q => !(q.1 == i) && !(q.1 + 1 == i && q.2.category == 2))) ks = lv') (K : Z X k n ws lv' (pc + 2) st) : Z X k n ws lv pc (.int x :: st) := by
  obtain ⟨p, l, e, R, s, m, args, below, meth, c, E, A, nL, Q⟩ := X
  obtain ⟨rfl, rfl, rfl, rfl, hx, hb, hml, hown, hts, hK, hA, hlk, hnw⟩ := F
  intro H locs ls hP hD hS hl
  exact lv_istore hx hb hd hl hn rfl (fun ls' hl2 => K H locs ls' hP hD hS (lv_sub hl2 ks hl'))
theorem z_lstore_n (F : zF X l rm E cc nl own) {f : Fin 4} {i : Nat} {x : Int64} {lv' : List (Nat × Value)} (hd : decode cc pc = .ok (.lstore_n f, 1)) (hi : (f : Nat) = i) (hn : i + 1 < nl) (ks : List Nat) (hl' : lv_pick ((i, Value.long x) :: lv.filter (fun q => !(q.1 == i) && (!(q.1 == i + 1) && !(q.1 + 1 == i && q.2.category == 2)))) ks = lv') (K : Z X k n ws lv' (pc + 1) st) : Z X k n ws lv pc (.long x :: st) := by
  obtain ⟨p, l, e, R, s, m, args, below, meth, c, E, A, nL, Q⟩ := X
  obtain ⟨rfl, rfl, rfl, rfl, hx, hb, hml, hown, hts, hK, hA, hlk, hnw⟩ := F
  intro H locs ls hP hD hS hl
  exact lv_lstore_n hx hb hd hi hl hn rfl (fun ls' hl2 => K H locs ls' hP hD hS (lv_sub hl2 ks hl'))
theorem z_lstore (F : zF X l rm E cc nl own) {i : Nat} {x : Int64} {lv' : List (Nat × Value)} (hd : decode cc pc = .ok (.lstore i, 2)) (hn : i + 1 < nl) (ks : List Nat) (hl' : lv_pick ((i, Value.long x) :: lv.filter (fun q => !(q.1 == i) && (!(q.1 == i + 1) && !(q.1 + 1 == i && q.2.category == 2)))) ks = lv') (K : Z X k n ws lv' (pc + 2) st) : Z X k n ws lv pc (.long x :: st) := by
  obtain ⟨p, l, e, R, s, m, args, below, meth, c, E, A, nL, Q⟩ := X
  obtain ⟨rfl, rfl, rfl, rfl, hx, hb, hml, hown, hts, hK, hA, hlk, hnw⟩ := F
  intro H locs ls hP hD hS hl
  exact lv_lstore hx hb hd hl hn rfl (fun ls' hl2 => K H locs ls' hP hD hS (lv_sub hl2 ks hl'))
theorem z_astore_n (F : zF X l rm E cc nl own) {f : Fin 4} {i : Nat} {x : Nat} {lv' : List (Nat × Value)} (hd : decode cc pc = .ok (.astore_n f, 1)) (hi : (f : Nat) = i) (hn : i < nl) (ks : List Nat) (hl' : lv_pick ((i, Value.ref x) :: lv.filter (fun q => !(q.1 == i) && !(q.1 + 1 == i && q.2.category == 2))) ks = lv') (K : Z X k n ws lv' (pc + 1) st) : Z X k n ws lv pc (.ref x :: st) := by
  obtain ⟨p, l, e, R, s, m, args, below, meth, c, E, A, nL, Q⟩ := X
  obtain ⟨rfl, rfl, rfl, rfl, hx, hb, hml, hown, hts, hK, hA, hlk, hnw⟩ := F
  intro H locs ls hP hD hS hl
  exact lv_astore_n hx hb hd hi hl hn rfl (fun ls' hl2 => K H locs ls' hP hD hS (lv_sub hl2 ks hl'))
theorem z_astore (F : zF X l rm E cc nl own) {i : Nat} {x : Nat} {lv' : List (Nat × Value)} (hd : decode cc pc = .ok (.astore i, 2)) (hn : i < nl) (ks : List Nat) (hl' : lv_pick ((i, Value.ref x) :: lv.filter (fun q => !(q.1 == i) && !(q.1 + 1 == i && q.2.category == 2))) ks = lv') (K : Z X k n ws lv' (pc + 2) st) : Z X k n ws lv pc (.ref x :: st) := by
  obtain ⟨p, l, e, R, s, m, args, below, meth, c, E, A, nL, Q⟩ := X
  obtain ⟨rfl, rfl, rfl, rfl, hx, hb, hml, hown, hts, hK, hA, hlk, hnw⟩ := F
  intro H locs ls hP hD hS hl
  exact lv_astore hx hb hd hl hn rfl (fun ls' hl2 => K H locs ls' hP hD hS (lv_sub hl2 ks hl'))
theorem z_iinc (F : zF X l rm E cc nl own) {i j : Nat} {d : Int} {x v : Int32} {lv' : List (Nat × Value)} (hd : decode cc pc = .ok (.iinc i d, 3)) (hj : lv[j]? = some (i, .int x)) (hv : x + Int32.ofInt d = v) (hn : i < nl) (ks : List Nat) (hl' : lv_pick ((i, Value.int v) :: lv.filter (fun q => !(q.1 == i) && !(q.1 + 1 == i && q.2.category == 2))) ks = lv') (K : Z X k n ws lv' (pc + 3) st) : Z X k n ws lv pc st := by
  obtain ⟨p, l, e, R, s, m, args, below, meth, c, E, A, nL, Q⟩ := X
  obtain ⟨rfl, rfl, rfl, rfl, hx, hb, hml, hown, hts, hK, hA, hlk, hnw⟩ := F
  intro H locs ls hP hD hS hl
  exact lv_iinc hx hb hd hl hj hv hn rfl (fun ls' hl2 => K H locs ls' hP hD hS (lv_sub hl2 ks hl'))
theorem z_iadd (F : zF X l rm E cc nl own) {x y : Int32} (hd : decode cc pc = .ok (.iadd, 1)) (K : Z X k n ws lv (pc + 1) (.int (x + y) :: st)) : Z X k n ws lv pc (.int y :: .int x :: st) := by
  obtain ⟨p, l, e, R, s, m, args, below, meth, c, E, A, nL, Q⟩ := X
  obtain ⟨rfl, rfl, rfl, rfl, hx, hb, hml, hown, hts, hK, hA, hlk, hnw⟩ := F
  intro H locs ls hP hD hS hl
  exact lv_iadd hx hb hd (K H locs ls hP hD hS hl)
theorem z_isub (F : zF X l rm E cc nl own) {x y : Int32} (hd : decode cc pc = .ok (.isub, 1)) (K : Z X k n ws lv (pc + 1) (.int (x - y) :: st)) : Z X k n ws lv pc (.int y :: .int x :: st) := by
  obtain ⟨p, l, e, R, s, m, args, below, meth, c, E, A, nL, Q⟩ := X
  obtain ⟨rfl, rfl, rfl, rfl, hx, hb, hml, hown, hts, hK, hA, hlk, hnw⟩ := F
  intro H locs ls hP hD hS hl
  exact lv_isub hx hb hd (K H locs ls hP hD hS hl)
theorem z_imul (F : zF X l rm E cc nl own) {x y : Int32} (hd : decode cc pc = .ok (.imul, 1)) (K : Z X k n ws lv (pc + 1) (.int (x * y) :: st)) : Z X k n ws lv pc (.int y :: .int x :: st) := by
  obtain ⟨p, l, e, R, s, m, args, below, meth, c, E, A, nL, Q⟩ := X
  obtain ⟨rfl, rfl, rfl, rfl, hx, hb, hml, hown, hts, hK, hA, hlk, hnw⟩ := F
  intro H locs ls hP hD hS hl
  exact lv_imul hx hb hd (K H locs ls hP hD hS hl)
theorem z_iand (F : zF X l rm E cc nl own) {x y : Int32} (hd : decode cc pc = .ok (.iand, 1)) (K : Z X k n ws lv (pc + 1) (.int (x &&& y) :: st)) : Z X k n ws lv pc (.int y :: .int x :: st) := by
  obtain ⟨p, l, e, R, s, m, args, below, meth, c, E, A, nL, Q⟩ := X
  obtain ⟨rfl, rfl, rfl, rfl, hx, hb, hml, hown, hts, hK, hA, hlk, hnw⟩ := F
  intro H locs ls hP hD hS hl
  exact lv_iand hx hb hd (K H locs ls hP hD hS hl)
theorem z_ior (F : zF X l rm E cc nl own) {x y : Int32} (hd : decode cc pc = .ok (.ior, 1)) (K : Z X k n ws lv (pc + 1) (.int (x ||| y) :: st)) : Z X k n ws lv pc (.int y :: .int x :: st) := by
  obtain ⟨p, l, e, R, s, m, args, below, meth, c, E, A, nL, Q⟩ := X
  obtain ⟨rfl, rfl, rfl, rfl, hx, hb, hml, hown, hts, hK, hA, hlk, hnw⟩ := F
  intro H locs ls hP hD hS hl
  exact lv_ior hx hb hd (K H locs ls hP hD hS hl)
theorem z_ixor (F : zF X l rm E cc nl own) {x y : Int32} (hd : decode cc pc = .ok (.ixor, 1)) (K : Z X k n ws lv (pc + 1) (.int (x ^^^ y) :: st)) : Z X k n ws lv pc (.int y :: .int x :: st) := by
  obtain ⟨p, l, e, R, s, m, args, below, meth, c, E, A, nL, Q⟩ := X
  obtain ⟨rfl, rfl, rfl, rfl, hx, hb, hml, hown, hts, hK, hA, hlk, hnw⟩ := F
  intro H locs ls hP hD hS hl
  exact lv_ixor hx hb hd (K H locs ls hP hD hS hl)
theorem z_ladd (F : zF X l rm E cc nl own) {x y : Int64} (hd : decode cc pc = .ok (.ladd, 1)) (K : Z X k n ws lv (pc + 1) (.long (x + y) :: st)) : Z X k n ws lv pc (.long y :: .long x :: st) := by
  obtain ⟨p, l, e, R, s, m, args, below, meth, c, E, A, nL, Q⟩ := X
  obtain ⟨rfl, rfl, rfl, rfl, hx, hb, hml, hown, hts, hK, hA, hlk, hnw⟩ := F
  intro H locs ls hP hD hS hl
  exact lv_ladd hx hb hd (K H locs ls hP hD hS hl)
theorem z_lsub (F : zF X l rm E cc nl own) {x y : Int64} (hd : decode cc pc = .ok (.lsub, 1)) (K : Z X k n ws lv (pc + 1) (.long (x - y) :: st)) : Z X k n ws lv pc (.long y :: .long x :: st) := by
  obtain ⟨p, l, e, R, s, m, args, below, meth, c, E, A, nL, Q⟩ := X
  obtain ⟨rfl, rfl, rfl, rfl, hx, hb, hml, hown, hts, hK, hA, hlk, hnw⟩ := F
  intro H locs ls hP hD hS hl
  exact lv_lsub hx hb hd (K H locs ls hP hD hS hl)
theorem z_lmul (F : zF X l rm E cc nl own) {x y : Int64} (hd : decode cc pc = .ok (.lmul, 1)) (K : Z X k n ws lv (pc + 1) (.long (x * y) :: st)) : Z X k n ws lv pc (.long y :: .long x :: st) := by
  obtain ⟨p, l, e, R, s, m, args, below, meth, c, E, A, nL, Q⟩ := X
  obtain ⟨rfl, rfl, rfl, rfl, hx, hb, hml, hown, hts, hK, hA, hlk, hnw⟩ := F
  intro H locs ls hP hD hS hl
  exact lv_lmul hx hb hd (K H locs ls hP hD hS hl)
theorem z_land (F : zF X l rm E cc nl own) {x y : Int64} (hd : decode cc pc = .ok (.land, 1)) (K : Z X k n ws lv (pc + 1) (.long (x &&& y) :: st)) : Z X k n ws lv pc (.long y :: .long x :: st) := by
  obtain ⟨p, l, e, R, s, m, args, below, meth, c, E, A, nL, Q⟩ := X
  obtain ⟨rfl, rfl, rfl, rfl, hx, hb, hml, hown, hts, hK, hA, hlk, hnw⟩ := F
  intro H locs ls hP hD hS hl
  exact lv_land hx hb hd (K H locs ls hP hD hS hl)
theorem z_lor (F : zF X l rm E cc nl own) {x y : Int64} (hd : decode cc pc = .ok (.lor, 1)) (K : Z X k n ws lv (pc + 1) (.long (x ||| y) :: st)) : Z X k n ws lv pc (.long y :: .long x :: st) := by
  obtain ⟨p, l, e, R, s, m, args, below, meth, c, E, A, nL, Q⟩ := X
  obtain ⟨rfl, rfl, rfl, rfl, hx, hb, hml, hown, hts, hK, hA, hlk, hnw⟩ := F
  intro H locs ls hP hD hS hl
  exact lv_lor hx hb hd (K H locs ls hP hD hS hl)
theorem z_lxor (F : zF X l rm E cc nl own) {x y : Int64} (hd : decode cc pc = .ok (.lxor, 1)) (K : Z X k n ws lv (pc + 1) (.long (x ^^^ y) :: st)) : Z X k n ws lv pc (.long y :: .long x :: st) := by
  obtain ⟨p, l, e, R, s, m, args, below, meth, c, E, A, nL, Q⟩ := X
  obtain ⟨rfl, rfl, rfl, rfl, hx, hb, hml, hown, hts, hK, hA, hlk, hnw⟩ := F
  intro H locs ls hP hD hS hl
  exact lv_lxor hx hb hd (K H locs ls hP hD hS hl)
theorem z_ldiv (F : zF X l rm E cc nl own) {x y : Int64} (hd : decode cc pc = .ok (.ldiv, 1)) (hne : ¬ y = 0) (K : Z X k n ws lv (pc + 1) (.long (x / y) :: st)) : Z X k n ws lv pc (.long y :: .long x :: st) := by
  obtain ⟨p, l, e, R, s, m, args, below, meth, c, E, A, nL, Q⟩ := X
  obtain ⟨rfl, rfl, rfl, rfl, hx, hb, hml, hown, hts, hK, hA, hlk, hnw⟩ := F
  intro H locs ls hP hD hS hl
  exact lv_ldiv hx hb hd hne (K H locs ls hP hD hS hl)
theorem z_lrem (F : zF X l rm E cc nl own) {x y : Int64} (hd : decode cc pc = .ok (.lrem, 1)) (hne : ¬ y = 0) (K : Z X k n ws lv (pc + 1) (.long (x - x / y * y) :: st)) : Z X k n ws lv pc (.long y :: .long x :: st) := by
  obtain ⟨p, l, e, R, s, m, args, below, meth, c, E, A, nL, Q⟩ := X
  obtain ⟨rfl, rfl, rfl, rfl, hx, hb, hml, hown, hts, hK, hA, hlk, hnw⟩ := F
  intro H locs ls hP hD hS hl
  exact lv_lrem hx hb hd hne (K H locs ls hP hD hS hl)
theorem z_lneg (F : zF X l rm E cc nl own) {x : Int64} (hd : decode cc pc = .ok (.lneg, 1)) (K : Z X k n ws lv (pc + 1) (.long (-x) :: st)) : Z X k n ws lv pc (.long x :: st) := by
  obtain ⟨p, l, e, R, s, m, args, below, meth, c, E, A, nL, Q⟩ := X
  obtain ⟨rfl, rfl, rfl, rfl, hx, hb, hml, hown, hts, hK, hA, hlk, hnw⟩ := F
  intro H locs ls hP hD hS hl
  exact lv_lneg hx hb hd (K H locs ls hP hD hS hl)
theorem z_i2l (F : zF X l rm E cc nl own) {x : Int32} (hd : decode cc pc = .ok (.i2l, 1)) (K : Z X k n ws lv (pc + 1) (.long x.toInt64 :: st)) : Z X k n ws lv pc (.int x :: st) := by
  obtain ⟨p, l, e, R, s, m, args, below, meth, c, E, A, nL, Q⟩ := X
  obtain ⟨rfl, rfl, rfl, rfl, hx, hb, hml, hown, hts, hK, hA, hlk, hnw⟩ := F
  intro H locs ls hP hD hS hl
  exact lv_i2l hx hb hd rfl (K H locs ls hP hD hS hl)
theorem z_l2i (F : zF X l rm E cc nl own) {x : Int64} (hd : decode cc pc = .ok (.l2i, 1)) (K : Z X k n ws lv (pc + 1) (.int x.toInt32 :: st)) : Z X k n ws lv pc (.long x :: st) := by
  obtain ⟨p, l, e, R, s, m, args, below, meth, c, E, A, nL, Q⟩ := X
  obtain ⟨rfl, rfl, rfl, rfl, hx, hb, hml, hown, hts, hK, hA, hlk, hnw⟩ := F
  intro H locs ls hP hD hS hl
  exact lv_l2i hx hb hd rfl (K H locs ls hP hD hS hl)
theorem z_i2c (F : zF X l rm E cc nl own) {x : Int32} (hd : decode cc pc = .ok (.i2c, 1)) (K : Z X k n ws lv (pc + 1) (.int (x.toUInt32 % 65536).toInt32 :: st)) : Z X k n ws lv pc (.int x :: st) := by
  obtain ⟨p, l, e, R, s, m, args, below, meth, c, E, A, nL, Q⟩ := X
  obtain ⟨rfl, rfl, rfl, rfl, hx, hb, hml, hown, hts, hK, hA, hlk, hnw⟩ := F
  intro H locs ls hP hD hS hl
  exact lv_i2c hx hb hd rfl (K H locs ls hP hD hS hl)
theorem z_lushr (F : zF X l rm E cc nl own) {x : Int64} {y : Int32} (hd : decode cc pc = .ok (.lushr, 1)) (K : Z X k n ws lv (pc + 1) (.long (x.toUInt64 >>> (y.toInt64.toUInt64 &&& Int64.toUInt64 63)).toInt64 :: st)) : Z X k n ws lv pc (.int y :: .long x :: st) := by
  obtain ⟨p, l, e, R, s, m, args, below, meth, c, E, A, nL, Q⟩ := X
  obtain ⟨rfl, rfl, rfl, rfl, hx, hb, hml, hown, hts, hK, hA, hlk, hnw⟩ := F
  intro H locs ls hP hD hS hl
  exact lv_lushr hx hb hd rfl (K H locs ls hP hD hS hl)
theorem z_lshl (F : zF X l rm E cc nl own) {x : Int64} {y : Int32} (hd : decode cc pc = .ok (.lshl, 1)) (K : Z X k n ws lv (pc + 1) (.long (x <<< (y.toInt64 &&& 63)) :: st)) : Z X k n ws lv pc (.int y :: .long x :: st) := by
  obtain ⟨p, l, e, R, s, m, args, below, meth, c, E, A, nL, Q⟩ := X
  obtain ⟨rfl, rfl, rfl, rfl, hx, hb, hml, hown, hts, hK, hA, hlk, hnw⟩ := F
  intro H locs ls hP hD hS hl
  exact lv_lshl hx hb hd rfl (K H locs ls hP hD hS hl)
theorem z_lshr (F : zF X l rm E cc nl own) {x : Int64} {y : Int32} (hd : decode cc pc = .ok (.lshr, 1)) (K : Z X k n ws lv (pc + 1) (.long (x >>> (y.toInt64 &&& 63)) :: st)) : Z X k n ws lv pc (.int y :: .long x :: st) := by
  obtain ⟨p, l, e, R, s, m, args, below, meth, c, E, A, nL, Q⟩ := X
  obtain ⟨rfl, rfl, rfl, rfl, hx, hb, hml, hown, hts, hK, hA, hlk, hnw⟩ := F
  intro H locs ls hP hD hS hl
  exact lv_lshr hx hb hd rfl (K H locs ls hP hD hS hl)
theorem z_lcmp (F : zF X l rm E cc nl own) {x y : Int64} (hd : decode cc pc = .ok (.lcmp, 1)) (K : Z X k n ws lv (pc + 1) (.int (lg_cmp x y) :: st)) : Z X k n ws lv pc (.long y :: .long x :: st) := by
  obtain ⟨p, l, e, R, s, m, args, below, meth, c, E, A, nL, Q⟩ := X
  obtain ⟨rfl, rfl, rfl, rfl, hx, hb, hml, hown, hts, hK, hA, hlk, hnw⟩ := F
  intro H locs ls hP hD hS hl
  exact W.lcmp hx hb hd (K H locs ls hP hD hS hl)
theorem z_dup (F : zF X l rm E cc nl own) {a : Value} (hd : decode cc pc = .ok (.dup, 1)) (ha : a.category = 1) (K : Z X k n ws lv (pc + 1) (a :: a :: st)) : Z X k n ws lv pc (a :: st) := by
  obtain ⟨p, l, e, R, s, m, args, below, meth, c, E, A, nL, Q⟩ := X
  obtain ⟨rfl, rfl, rfl, rfl, hx, hb, hml, hown, hts, hK, hA, hlk, hnw⟩ := F
  intro H locs ls hP hD hS hl
  exact lv_dup hx hb hd ha (K H locs ls hP hD hS hl)
theorem z_pop (F : zF X l rm E cc nl own) {a : Value} (hd : decode cc pc = .ok (.pop, 1)) (ha : a.category = 1) (K : Z X k n ws lv (pc + 1) (st)) : Z X k n ws lv pc (a :: st) := by
  obtain ⟨p, l, e, R, s, m, args, below, meth, c, E, A, nL, Q⟩ := X
  obtain ⟨rfl, rfl, rfl, rfl, hx, hb, hml, hown, hts, hK, hA, hlk, hnw⟩ := F
  intro H locs ls hP hD hS hl
  exact lv_pop hx hb hd ha (K H locs ls hP hD hS hl)
theorem z_dup2_11 (F : zF X l rm E cc nl own) {a b : Value} (hd : decode cc pc = .ok (.dup2, 1)) (ha : a.category = 1) (hb2 : b.category = 1) (K : Z X k n ws lv (pc + 1) (a :: b :: a :: b :: st)) : Z X k n ws lv pc (a :: b :: st) := by
  obtain ⟨p, l, e, R, s, m, args, below, meth, c, E, A, nL, Q⟩ := X
  obtain ⟨rfl, rfl, rfl, rfl, hx, hb, hml, hown, hts, hK, hA, hlk, hnw⟩ := F
  intro H locs ls hP hD hS hl
  exact lv_dup2_11 hx hb hd ha hb2 (K H locs ls hP hD hS hl)
theorem z_goto (F : zF X l rm E cc nl own) {off : Int} {tgt : Nat} (hd : decode cc pc = .ok (.goto off, 3)) (ht : (pc : Int) + off = (tgt : Int)) (K : Z X k n ws lv (tgt) (st)) : Z X k n ws lv pc (st) := by
  obtain ⟨p, l, e, R, s, m, args, below, meth, c, E, A, nL, Q⟩ := X
  obtain ⟨rfl, rfl, rfl, rfl, hx, hb, hml, hown, hts, hK, hA, hlk, hnw⟩ := F
  intro H locs ls hP hD hS hl
  exact lv_goto hx hb hd ht (K H locs ls hP hD hS hl)
theorem z_tableIn (F : zF X l rm E cc nl own) {dflt lo hi : Int} {offs : Array Int} {len : Nat} {x : Int32} {off : Int} {tgt : Nat} (hd : decode cc pc = .ok (.tableswitch dflt lo hi offs, len)) (h1 : ¬ x.toInt < lo) (h2 : ¬ hi < x.toInt) (ho : offs[(x.toInt - lo).toNat]? = some off) (ht : (pc : Int) + off = (tgt : Int)) (K : Z X k n ws lv (tgt) (st)) : Z X k n ws lv pc (.int x :: st) := by
  obtain ⟨p, l, e, R, s, m, args, below, meth, c, E, A, nL, Q⟩ := X
  obtain ⟨rfl, rfl, rfl, rfl, hx, hb, hml, hown, hts, hK, hA, hlk, hnw⟩ := F
  intro H locs ls hP hD hS hl
  exact lv_tableIn hx hb hd h1 h2 ho ht (K H locs ls hP hD hS hl)
theorem z_tableOut (F : zF X l rm E cc nl own) {dflt lo hi : Int} {offs : Array Int} {len : Nat} {x : Int32} {tgt : Nat} (hd : decode cc pc = .ok (.tableswitch dflt lo hi offs, len)) (h : x.toInt < lo ∨ hi < x.toInt) (ht : (pc : Int) + dflt = (tgt : Int)) (K : Z X k n ws lv (tgt) (st)) : Z X k n ws lv pc (.int x :: st) := by
  obtain ⟨p, l, e, R, s, m, args, below, meth, c, E, A, nL, Q⟩ := X
  obtain ⟨rfl, rfl, rfl, rfl, hx, hb, hml, hown, hts, hK, hA, hlk, hnw⟩ := F
  intro H locs ls hP hD hS hl
  exact lv_tableOut hx hb hd h ht (K H locs ls hP hD hS hl)
theorem z_lookup (F : zF X l rm E cc nl own) {dflt : Int} {ps : Array (Int × Int)} {len : Nat} {x : Int32} {off : Int} {tgt : Nat} (hd : decode cc pc = .ok (.lookupswitch dflt ps, len)) (hp : (ps.toList.zip (ps.toList.drop 1)).all (fun (a, next) => a.1 < next.1) = true) (ho : Op.lookupswitch.offset ps.toList dflt x.toInt = off) (ht : (pc : Int) + off = (tgt : Int)) (K : Z X k n ws lv (tgt) (st)) : Z X k n ws lv pc (.int x :: st) := by
  obtain ⟨p, l, e, R, s, m, args, below, meth, c, E, A, nL, Q⟩ := X
  obtain ⟨rfl, rfl, rfl, rfl, hx, hb, hml, hown, hts, hK, hA, hlk, hnw⟩ := F
  intro H locs ls hP hD hS hl
  exact lv_lookup hx hb hd hp ho ht (K H locs ls hP hD hS hl)
theorem z_if_eq (F : zF X l rm E cc nl own) {x : Int32} {off : Int} {tgt : Nat} (hd : decode cc pc = .ok (.ifCond .eq off, 3)) (ht : (pc : Int) + off = (tgt : Int)) (kt : x = 0 → Z X k n ws lv tgt st) (kf : ¬ x = 0 → Z X k n ws lv (pc + 3) st) : Z X k n ws lv pc (.int x :: st) := by
  obtain ⟨p, l, e, R, s, m, args, below, meth, c, E, A, nL, Q⟩ := X
  obtain ⟨rfl, rfl, rfl, rfl, hx, hb, hml, hown, hts, hK, hA, hlk, hnw⟩ := F
  intro H locs ls hP hD hS hl
  exact lv_if_eq hx hb hd ht (fun h => kt h H locs ls hP hD hS hl) (fun h => kf h H locs ls hP hD hS hl)
theorem z_icmp_eq (F : zF X l rm E cc nl own) {x y : Int32} {off : Int} {tgt : Nat} (hd : decode cc pc = .ok (.if_icmp .eq off, 3)) (ht : (pc : Int) + off = (tgt : Int)) (kt : x = y → Z X k n ws lv tgt st) (kf : ¬ x = y → Z X k n ws lv (pc + 3) st) : Z X k n ws lv pc (.int y :: .int x :: st) := by
  obtain ⟨p, l, e, R, s, m, args, below, meth, c, E, A, nL, Q⟩ := X
  obtain ⟨rfl, rfl, rfl, rfl, hx, hb, hml, hown, hts, hK, hA, hlk, hnw⟩ := F
  intro H locs ls hP hD hS hl
  exact lv_icmp_eq hx hb hd ht (fun h => kt h H locs ls hP hD hS hl) (fun h => kf h H locs ls hP hD hS hl)
theorem z_if_ne (F : zF X l rm E cc nl own) {x : Int32} {off : Int} {tgt : Nat} (hd : decode cc pc = .ok (.ifCond .ne off, 3)) (ht : (pc : Int) + off = (tgt : Int)) (kt : ¬ x = 0 → Z X k n ws lv tgt st) (kf : x = 0 → Z X k n ws lv (pc + 3) st) : Z X k n ws lv pc (.int x :: st) := by
  obtain ⟨p, l, e, R, s, m, args, below, meth, c, E, A, nL, Q⟩ := X
  obtain ⟨rfl, rfl, rfl, rfl, hx, hb, hml, hown, hts, hK, hA, hlk, hnw⟩ := F
  intro H locs ls hP hD hS hl
  exact lv_if_ne hx hb hd ht (fun h => kt h H locs ls hP hD hS hl) (fun h => kf h H locs ls hP hD hS hl)
theorem z_icmp_ne (F : zF X l rm E cc nl own) {x y : Int32} {off : Int} {tgt : Nat} (hd : decode cc pc = .ok (.if_icmp .ne off, 3)) (ht : (pc : Int) + off = (tgt : Int)) (kt : ¬ x = y → Z X k n ws lv tgt st) (kf : x = y → Z X k n ws lv (pc + 3) st) : Z X k n ws lv pc (.int y :: .int x :: st) := by
  obtain ⟨p, l, e, R, s, m, args, below, meth, c, E, A, nL, Q⟩ := X
  obtain ⟨rfl, rfl, rfl, rfl, hx, hb, hml, hown, hts, hK, hA, hlk, hnw⟩ := F
  intro H locs ls hP hD hS hl
  exact lv_icmp_ne hx hb hd ht (fun h => kt h H locs ls hP hD hS hl) (fun h => kf h H locs ls hP hD hS hl)
theorem z_if_lt (F : zF X l rm E cc nl own) {x : Int32} {off : Int} {tgt : Nat} (hd : decode cc pc = .ok (.ifCond .lt off, 3)) (ht : (pc : Int) + off = (tgt : Int)) (kt : x < 0 → Z X k n ws lv tgt st) (kf : ¬ x < 0 → Z X k n ws lv (pc + 3) st) : Z X k n ws lv pc (.int x :: st) := by
  obtain ⟨p, l, e, R, s, m, args, below, meth, c, E, A, nL, Q⟩ := X
  obtain ⟨rfl, rfl, rfl, rfl, hx, hb, hml, hown, hts, hK, hA, hlk, hnw⟩ := F
  intro H locs ls hP hD hS hl
  exact lv_if_lt hx hb hd ht (fun h => kt h H locs ls hP hD hS hl) (fun h => kf h H locs ls hP hD hS hl)
theorem z_icmp_lt (F : zF X l rm E cc nl own) {x y : Int32} {off : Int} {tgt : Nat} (hd : decode cc pc = .ok (.if_icmp .lt off, 3)) (ht : (pc : Int) + off = (tgt : Int)) (kt : x < y → Z X k n ws lv tgt st) (kf : ¬ x < y → Z X k n ws lv (pc + 3) st) : Z X k n ws lv pc (.int y :: .int x :: st) := by
  obtain ⟨p, l, e, R, s, m, args, below, meth, c, E, A, nL, Q⟩ := X
  obtain ⟨rfl, rfl, rfl, rfl, hx, hb, hml, hown, hts, hK, hA, hlk, hnw⟩ := F
  intro H locs ls hP hD hS hl
  exact lv_icmp_lt hx hb hd ht (fun h => kt h H locs ls hP hD hS hl) (fun h => kf h H locs ls hP hD hS hl)
theorem z_if_ge (F : zF X l rm E cc nl own) {x : Int32} {off : Int} {tgt : Nat} (hd : decode cc pc = .ok (.ifCond .ge off, 3)) (ht : (pc : Int) + off = (tgt : Int)) (kt : 0 ≤ x → Z X k n ws lv tgt st) (kf : ¬ 0 ≤ x → Z X k n ws lv (pc + 3) st) : Z X k n ws lv pc (.int x :: st) := by
  obtain ⟨p, l, e, R, s, m, args, below, meth, c, E, A, nL, Q⟩ := X
  obtain ⟨rfl, rfl, rfl, rfl, hx, hb, hml, hown, hts, hK, hA, hlk, hnw⟩ := F
  intro H locs ls hP hD hS hl
  exact lv_if_ge hx hb hd ht (fun h => kt h H locs ls hP hD hS hl) (fun h => kf h H locs ls hP hD hS hl)
theorem z_icmp_ge (F : zF X l rm E cc nl own) {x y : Int32} {off : Int} {tgt : Nat} (hd : decode cc pc = .ok (.if_icmp .ge off, 3)) (ht : (pc : Int) + off = (tgt : Int)) (kt : y ≤ x → Z X k n ws lv tgt st) (kf : ¬ y ≤ x → Z X k n ws lv (pc + 3) st) : Z X k n ws lv pc (.int y :: .int x :: st) := by
  obtain ⟨p, l, e, R, s, m, args, below, meth, c, E, A, nL, Q⟩ := X
  obtain ⟨rfl, rfl, rfl, rfl, hx, hb, hml, hown, hts, hK, hA, hlk, hnw⟩ := F
  intro H locs ls hP hD hS hl
  exact lv_icmp_ge hx hb hd ht (fun h => kt h H locs ls hP hD hS hl) (fun h => kf h H locs ls hP hD hS hl)
theorem z_if_gt (F : zF X l rm E cc nl own) {x : Int32} {off : Int} {tgt : Nat} (hd : decode cc pc = .ok (.ifCond .gt off, 3)) (ht : (pc : Int) + off = (tgt : Int)) (kt : 0 < x → Z X k n ws lv tgt st) (kf : ¬ 0 < x → Z X k n ws lv (pc + 3) st) : Z X k n ws lv pc (.int x :: st) := by
  obtain ⟨p, l, e, R, s, m, args, below, meth, c, E, A, nL, Q⟩ := X
  obtain ⟨rfl, rfl, rfl, rfl, hx, hb, hml, hown, hts, hK, hA, hlk, hnw⟩ := F
  intro H locs ls hP hD hS hl
  exact lv_if_gt hx hb hd ht (fun h => kt h H locs ls hP hD hS hl) (fun h => kf h H locs ls hP hD hS hl)
theorem z_icmp_gt (F : zF X l rm E cc nl own) {x y : Int32} {off : Int} {tgt : Nat} (hd : decode cc pc = .ok (.if_icmp .gt off, 3)) (ht : (pc : Int) + off = (tgt : Int)) (kt : y < x → Z X k n ws lv tgt st) (kf : ¬ y < x → Z X k n ws lv (pc + 3) st) : Z X k n ws lv pc (.int y :: .int x :: st) := by
  obtain ⟨p, l, e, R, s, m, args, below, meth, c, E, A, nL, Q⟩ := X
  obtain ⟨rfl, rfl, rfl, rfl, hx, hb, hml, hown, hts, hK, hA, hlk, hnw⟩ := F
  intro H locs ls hP hD hS hl
  exact lv_icmp_gt hx hb hd ht (fun h => kt h H locs ls hP hD hS hl) (fun h => kf h H locs ls hP hD hS hl)
theorem z_if_le (F : zF X l rm E cc nl own) {x : Int32} {off : Int} {tgt : Nat} (hd : decode cc pc = .ok (.ifCond .le off, 3)) (ht : (pc : Int) + off = (tgt : Int)) (kt : x ≤ 0 → Z X k n ws lv tgt st) (kf : ¬ x ≤ 0 → Z X k n ws lv (pc + 3) st) : Z X k n ws lv pc (.int x :: st) := by
  obtain ⟨p, l, e, R, s, m, args, below, meth, c, E, A, nL, Q⟩ := X
  obtain ⟨rfl, rfl, rfl, rfl, hx, hb, hml, hown, hts, hK, hA, hlk, hnw⟩ := F
  intro H locs ls hP hD hS hl
  exact lv_if_le hx hb hd ht (fun h => kt h H locs ls hP hD hS hl) (fun h => kf h H locs ls hP hD hS hl)
theorem z_icmp_le (F : zF X l rm E cc nl own) {x y : Int32} {off : Int} {tgt : Nat} (hd : decode cc pc = .ok (.if_icmp .le off, 3)) (ht : (pc : Int) + off = (tgt : Int)) (kt : x ≤ y → Z X k n ws lv tgt st) (kf : ¬ x ≤ y → Z X k n ws lv (pc + 3) st) : Z X k n ws lv pc (.int y :: .int x :: st) := by
  obtain ⟨p, l, e, R, s, m, args, below, meth, c, E, A, nL, Q⟩ := X
  obtain ⟨rfl, rfl, rfl, rfl, hx, hb, hml, hown, hts, hK, hA, hlk, hnw⟩ := F
  intro H locs ls hP hD hS hl
  exact lv_icmp_le hx hb hd ht (fun h => kt h H locs ls hP hD hS hl) (fun h => kf h H locs ls hP hD hS hl)
theorem z_get (F : zF X l rm E cc nl own) {C : String} {T : u_T} {N ci index a : Nat} (hin : ∀ w ∈ u_ws C T N, w ∈ lw_tb) (q : Nat) {fs : List Value} (he : ws[q]? = some (a, .inr (ci, fs))) (hc : vwCl[ci]? = some (C, T, N)) (f : Nat) (hf : f < N) (hw : Cond.fieldLink own index (T f).1 (T f).2.1 (T f).2.2.1 ∈ lw_tb) {v : Value} (hv : fs[f]? = some v) (hd : decode cc pc = .ok (.getfield index, 3)) (K : Z X k n ws lv (pc + 3) (v :: st)) : Z X k n ws lv pc (.ref a :: st) := by
  obtain ⟨p, l, e, R, s, m, args, below, meth, c, E, A, nL, Q⟩ := X
  obtain ⟨rfl, rfl, rfl, rfl, hx, hb, hml, hown, hts, hK, hA, hlk, hnw⟩ := F
  intro H locs ls hP hD hS hl
  exact va_get hx hb hts hin hown hK hP q he hc f hf (hts _ hw) (fun _ h => h) hv hd (K H locs ls hP hD hS hl)
theorem z_getN (F : zF X l rm E cc nl own) {C host : String} {T : u_T} {N ci index a : Nat} (hin : ∀ w ∈ u_ws C T N, w ∈ lw_tb) (q : Nat) {fs : List Value} (he : ws[q]? = some (a, .inr (ci, fs))) (hc : vwCl[ci]? = some (C, T, N)) (f : Nat) (hf : f < N) (hw : Cond.fieldLinkNest own index (T f).1 (T f).2.1 (T f).2.2.1 host ∈ lw_tbl ∧ nestB (.fieldLinkNest own index (T f).1 (T f).2.1 (T f).2.2.1 host) = true) {v : Value} (hv : fs[f]? = some v) (hd : decode cc pc = .ok (.getfield index, 3)) (K : Z X k n ws lv (pc + 3) (v :: st)) : Z X k n ws lv pc (.ref a :: st) := by
  obtain ⟨p, l, e, R, s, m, args, below, meth, c, E, A, nL, Q⟩ := X
  obtain ⟨rfl, rfl, rfl, rfl, hx, hb, hml, hown, hts, hK, hA, hlk, hnw⟩ := F
  intro H locs ls hP hD hS hl
  exact va_getN hx hb hts hin hown hK hP q he hc f hf (va_Nw.use rfl (hnw _ hw.1 hw.2)) (fun _ h => h) hv hd (K H locs ls hP hD hS hl)
theorem z_put (F : zF X l rm E cc nl own) {C : String} {T : u_T} {N ci index a : Nat} (hin : ∀ w ∈ u_ws C T N, w ∈ lw_tb) (ty0 : Nat → FieldType) (hty : ∀ k, k < N → parseFieldDescriptor (T k).2.2.1 = some (ty0 k)) (hnm : ∀ a, a < N → ∀ b, b < N → a ≠ b → (T a).2.1 ≠ (T b).2.1) (q : Nat) {fs : List Value} (he : ws[q]? = some (a, .inr (ci, fs))) (hc : vwCl[ci]? = some (C, T, N)) (f : Nat) (hf : f < N) (hw : Cond.fieldLink own index (T f).1 (T f).2.1 (T f).2.2.1 ∈ lw_tb) (hfin : (T f).2.2.2 = false) {v : Value} (hn : narrow (ty0 f) v = v) (hfit : fits (ty0 f) v = true) (hl0 : f < fs.length) (hd : decode cc pc = .ok (.putfield index, 3)) {ws' : va_W} (hws : ws.set q (a, .inr (ci, fs.set f v)) = ws') (K : Z X k n ws' lv (pc + 3) st) : Z X k n ws lv pc (v :: .ref a :: st) := by
  obtain ⟨p, l, e, R, s, m, args, below, meth, c, E, A, nL, Q⟩ := X
  obtain ⟨rfl, rfl, rfl, rfl, hx, hb, hml, hown, hts, hK, hA, hlk, hnw⟩ := F
  intro H locs ls hP hD hS hl
  subst hws
  exact va_put hx hb hts hin ty0 hty hnm hown hK hP hD hS q he hc f hf (hts _ hw) (fun _ h => h) hfin (hty f hf) hn hfit hl0 hd (fun H1 locs1 hP1 hD1 hS1 => K H1 locs1 ls hP1 hD1 hS1 hl)
theorem z_putN (F : zF X l rm E cc nl own) {C host : String} {T : u_T} {N ci index a : Nat} (hin : ∀ w ∈ u_ws C T N, w ∈ lw_tb) (ty0 : Nat → FieldType) (hty : ∀ k, k < N → parseFieldDescriptor (T k).2.2.1 = some (ty0 k)) (hnm : ∀ a, a < N → ∀ b, b < N → a ≠ b → (T a).2.1 ≠ (T b).2.1) (q : Nat) {fs : List Value} (he : ws[q]? = some (a, .inr (ci, fs))) (hc : vwCl[ci]? = some (C, T, N)) (f : Nat) (hf : f < N) (hw : Cond.fieldLinkNest own index (T f).1 (T f).2.1 (T f).2.2.1 host ∈ lw_tbl ∧ nestB (.fieldLinkNest own index (T f).1 (T f).2.1 (T f).2.2.1 host) = true) (hfin : (T f).2.2.2 = false) {v : Value} (hn : narrow (ty0 f) v = v) (hfit : fits (ty0 f) v = true) (hl0 : f < fs.length) (hd : decode cc pc = .ok (.putfield index, 3)) {ws' : va_W} (hws : ws.set q (a, .inr (ci, fs.set f v)) = ws') (K : Z X k n ws' lv (pc + 3) st) : Z X k n ws lv pc (v :: .ref a :: st) := by
  obtain ⟨p, l, e, R, s, m, args, below, meth, c, E, A, nL, Q⟩ := X
  obtain ⟨rfl, rfl, rfl, rfl, hx, hb, hml, hown, hts, hK, hA, hlk, hnw⟩ := F
  intro H locs ls hP hD hS hl
  subst hws
  exact va_putN hx hb hts hin ty0 hty hnm hown hK hP hD hS q he hc f hf (va_Nw.use rfl (hnw _ hw.1 hw.2)) (fun _ h => h) hfin (hty f hf) hn hfit hl0 hd (fun H1 locs1 hP1 hD1 hS1 => K H1 locs1 ls hP1 hD1 hS1 hl)
theorem z_iald (F : zF X l rm E cc nl own) (q t : Nat) {a : Nat} {cA : ClassId} {sz : Nat} {f : Nat → Int32} (ha : ws[q]? = some (a, .inl (cA, sz, .inl f))) (ht : (zty E.2)[t]? = some (cA, .int)) {i : Int32} (hin : vp_in i sz) (hd : decode cc pc = .ok (.iaload, 1)) (K : Z X k n ws lv (pc + 1) (.int (f i.toNatClampNeg) :: st)) : Z X k n ws lv pc (.int i :: .ref a :: st) := by
  obtain ⟨p, l, e, R, s, m, args, below, meth, c, E, A, nL, Q⟩ := X
  obtain ⟨rfl, rfl, rfl, rfl, hx, hb, hml, hown, hts, hK, hA, hlk, hnw⟩ := F
  intro H locs ls hP hD hS hl
  exact va_iald hx hb hK hP q t ha ht hin hd (K H locs ls hP hD hS hl)
theorem z_zald (F : zF X l rm E cc nl own) (q t : Nat) {a : Nat} {cA : ClassId} {sz : Nat} {f : Nat → Int32} (ha : ws[q]? = some (a, .inl (cA, sz, .inl f))) (ht : (zty E.2)[t]? = some (cA, .boolean)) {i : Int32} (hin : vp_in i sz) (hd : decode cc pc = .ok (.baload, 1)) (K : Z X k n ws lv (pc + 1) (.int (f i.toNatClampNeg) :: st)) : Z X k n ws lv pc (.int i :: .ref a :: st) := by
  obtain ⟨p, l, e, R, s, m, args, below, meth, c, E, A, nL, Q⟩ := X
  obtain ⟨rfl, rfl, rfl, rfl, hx, hb, hml, hown, hts, hK, hA, hlk, hnw⟩ := F
  intro H locs ls hP hD hS hl
  exact va_zald hx hb hK hP q t ha ht hin hd (K H locs ls hP hD hS hl)
theorem z_cald (F : zF X l rm E cc nl own) (q t : Nat) {a : Nat} {cA : ClassId} {sz : Nat} {f : Nat → Int32} (ha : ws[q]? = some (a, .inl (cA, sz, .inl f))) (ht : (zty E.2)[t]? = some (cA, .char)) {i : Int32} (hin : vp_in i sz) (hd : decode cc pc = .ok (.caload, 1)) (K : Z X k n ws lv (pc + 1) (.int (f i.toNatClampNeg) :: st)) : Z X k n ws lv pc (.int i :: .ref a :: st) := by
  obtain ⟨p, l, e, R, s, m, args, below, meth, c, E, A, nL, Q⟩ := X
  obtain ⟨rfl, rfl, rfl, rfl, hx, hb, hml, hown, hts, hK, hA, hlk, hnw⟩ := F
  intro H locs ls hP hD hS hl
  exact va_cald hx hb hK hP q t ha ht hin hd (K H locs ls hP hD hS hl)
theorem z_lald (F : zF X l rm E cc nl own) (q t : Nat) {a : Nat} {cA : ClassId} {sz : Nat} {f : Nat → Int64} (ha : ws[q]? = some (a, .inl (cA, sz, .inr (.inl f)))) (ht : (zty E.2)[t]? = some (cA, .long)) {i : Int32} (hin : vp_in i sz) (hd : decode cc pc = .ok (.laload, 1)) (K : Z X k n ws lv (pc + 1) (.long (f i.toNatClampNeg) :: st)) : Z X k n ws lv pc (.int i :: .ref a :: st) := by
  obtain ⟨p, l, e, R, s, m, args, below, meth, c, E, A, nL, Q⟩ := X
  obtain ⟨rfl, rfl, rfl, rfl, hx, hb, hml, hown, hts, hK, hA, hlk, hnw⟩ := F
  intro H locs ls hP hD hS hl
  exact va_lald hx hb hK hP q t ha ht hin hd (K H locs ls hP hD hS hl)
theorem z_iast (F : zF X l rm E cc nl own) (q t : Nat) {a : Nat} {cA : ClassId} {sz : Nat} {f : Nat → Int32} (ha : ws[q]? = some (a, .inl (cA, sz, .inl f))) (ht : (zty E.2)[t]? = some (cA, .int)) {i : Int32} {x : Int32} (hin : vp_in i sz) (hd : decode cc pc = .ok (.iastore, 1)) {ws' : va_W} (hws : ws.set q (a, .inl (cA, sz, .inl (upd f i.toNatClampNeg x))) = ws') (K : Z X k n ws' lv (pc + 1) st) : Z X k n ws lv pc (.int x :: .int i :: .ref a :: st) := by
  obtain ⟨p, l, e, R, s, m, args, below, meth, c, E, A, nL, Q⟩ := X
  obtain ⟨rfl, rfl, rfl, rfl, hx, hb, hml, hown, hts, hK, hA, hlk, hnw⟩ := F
  intro H locs ls hP hD hS hl
  subst hws
  exact va_iast hx hb hK hP hD hS q t ha ht hin hd (fun H1 locs1 hP1 hD1 hS1 => K H1 locs1 ls hP1 hD1 hS1 hl)
theorem z_zast (F : zF X l rm E cc nl own) (q t : Nat) {a : Nat} {cA : ClassId} {sz : Nat} {f : Nat → Int32} (ha : ws[q]? = some (a, .inl (cA, sz, .inl f))) (ht : (zty E.2)[t]? = some (cA, .boolean)) {i : Int32} {x : Int32} (hin : vp_in i sz) (hd : decode cc pc = .ok (.bastore, 1)) {ws' : va_W} (hws : ws.set q (a, .inl (cA, sz, .inl (upd f i.toNatClampNeg (vp_nar .boolean x)))) = ws') (K : Z X k n ws' lv (pc + 1) st) : Z X k n ws lv pc (.int x :: .int i :: .ref a :: st) := by
  obtain ⟨p, l, e, R, s, m, args, below, meth, c, E, A, nL, Q⟩ := X
  obtain ⟨rfl, rfl, rfl, rfl, hx, hb, hml, hown, hts, hK, hA, hlk, hnw⟩ := F
  intro H locs ls hP hD hS hl
  subst hws
  exact va_zast hx hb hK hP hD hS q t ha ht hin hd (fun H1 locs1 hP1 hD1 hS1 => K H1 locs1 ls hP1 hD1 hS1 hl)
theorem z_cast (F : zF X l rm E cc nl own) (q t : Nat) {a : Nat} {cA : ClassId} {sz : Nat} {f : Nat → Int32} (ha : ws[q]? = some (a, .inl (cA, sz, .inl f))) (ht : (zty E.2)[t]? = some (cA, .char)) {i : Int32} {x : Int32} (hin : vp_in i sz) (hd : decode cc pc = .ok (.castore, 1)) {ws' : va_W} (hws : ws.set q (a, .inl (cA, sz, .inl (upd f i.toNatClampNeg (vp_nar .char x)))) = ws') (K : Z X k n ws' lv (pc + 1) st) : Z X k n ws lv pc (.int x :: .int i :: .ref a :: st) := by
  obtain ⟨p, l, e, R, s, m, args, below, meth, c, E, A, nL, Q⟩ := X
  obtain ⟨rfl, rfl, rfl, rfl, hx, hb, hml, hown, hts, hK, hA, hlk, hnw⟩ := F
  intro H locs ls hP hD hS hl
  subst hws
  exact va_cast hx hb hK hP hD hS q t ha ht hin hd (fun H1 locs1 hP1 hD1 hS1 => K H1 locs1 ls hP1 hD1 hS1 hl)
theorem z_last (F : zF X l rm E cc nl own) (q t : Nat) {a : Nat} {cA : ClassId} {sz : Nat} {f : Nat → Int64} (ha : ws[q]? = some (a, .inl (cA, sz, .inr (.inl f)))) (ht : (zty E.2)[t]? = some (cA, .long)) {i : Int32} {x : Int64} (hin : vp_in i sz) (hd : decode cc pc = .ok (.lastore, 1)) {ws' : va_W} (hws : ws.set q (a, .inl (cA, sz, .inr (.inl (vp_updL f i.toNatClampNeg x)))) = ws') (K : Z X k n ws' lv (pc + 1) st) : Z X k n ws lv pc (.long x :: .int i :: .ref a :: st) := by
  obtain ⟨p, l, e, R, s, m, args, below, meth, c, E, A, nL, Q⟩ := X
  obtain ⟨rfl, rfl, rfl, rfl, hx, hb, hml, hown, hts, hK, hA, hlk, hnw⟩ := F
  intro H locs ls hP hD hS hl
  subst hws
  exact va_last hx hb hK hP hD hS q t ha ht hin hd (fun H1 locs1 hP1 hD1 hS1 => K H1 locs1 ls hP1 hD1 hS1 hl)
theorem z_aald (F : zF X l rm E cc nl own) (q t : Nat) {a : Nat} {cA : ClassId} {C : String} {sz : Nat} {f : Nat → Option Nat} (ha : ws[q]? = some (a, .inl (cA, sz, .inr (.inr (.inr (.inr f)))))) (ht : (zty E.2)[t]? = some (cA, .object C)) {i : Int32} (hin : vp_in i sz) (hd : decode cc pc = .ok (.aaload, 1)) (K : Z X k n ws lv (pc + 1) (va_rf (f i.toNatClampNeg) :: st)) : Z X k n ws lv pc (.int i :: .ref a :: st) := by
  obtain ⟨p, l, e, R, s, m, args, below, meth, c, E, A, nL, Q⟩ := X
  obtain ⟨rfl, rfl, rfl, rfl, hx, hb, hml, hown, hts, hK, hA, hlk, hnw⟩ := F
  intro H locs ls hP hD hS hl
  exact va_aldq hx hb hK hP q t ha ht hin hd (K H locs ls hP hD hS hl)
theorem z_iret (F : zF X l rm E cc nl own) {post : Option Value → va_W → Prop} {mc ms : Nat} (hR : zR X (some .int) post mc ms) {v : Int32} (hd : decode cc pc = .ok (.ireturn, 1)) (hk : k ≤ mc) (hn : n ≤ ms) (hp : post (some (.int v)) ws) : Z X k n ws lv pc [.int v] := by
  obtain ⟨p, l, e, R, s, m, args, below, meth, c, E, A, nL, Q⟩ := X
  obtain ⟨rfl, rfl, rfl, rfl, hx, hb, hml, hown, hts, hK, hA, hlk, hnw⟩ := F
  obtain ⟨hr, w0, rfl, rfl⟩ := hR
  intro H locs ls hP hD hS hl
  refine W.widen (k := mc) (n := ms) hk hn ?_
  exact W.iret hx hb hr (fun t ht hW => ⟨⟨_, ws, rfl, hp, by rw [ht]; exact hP, hD⟩, hS.F ht⟩) hS.2.2 hd hlk
theorem z_lret (F : zF X l rm E cc nl own) {post : Option Value → va_W → Prop} {mc ms : Nat} (hR : zR X (some .long) post mc ms) {v : Int64} (hd : decode cc pc = .ok (.lreturn, 1)) (hk : k ≤ mc) (hn : n ≤ ms) (hp : post (some (.long v)) ws) : Z X k n ws lv pc [.long v] := by
  obtain ⟨p, l, e, R, s, m, args, below, meth, c, E, A, nL, Q⟩ := X
  obtain ⟨rfl, rfl, rfl, rfl, hx, hb, hml, hown, hts, hK, hA, hlk, hnw⟩ := F
  obtain ⟨hr, w0, rfl, rfl⟩ := hR
  intro H locs ls hP hD hS hl
  refine W.widen (k := mc) (n := ms) hk hn ?_
  exact W.lret hx hb hr (fun t ht hW => ⟨⟨_, ws, rfl, hp, by rw [ht]; exact hP, hD⟩, hS.F ht⟩) hS.2.2 hd hlk
theorem z_vret (F : zF X l rm E cc nl own) {post : Option Value → va_W → Prop} {mc ms : Nat} (hR : zR X (none) post mc ms) (hd : decode cc pc = .ok (.return_, 1)) (hk : k ≤ mc) (hn : n ≤ ms) (hp : post (none) ws) : Z X k n ws lv pc [] := by
  obtain ⟨p, l, e, R, s, m, args, below, meth, c, E, A, nL, Q⟩ := X
  obtain ⟨rfl, rfl, rfl, rfl, hx, hb, hml, hown, hts, hK, hA, hlk, hnw⟩ := F
  obtain ⟨hr, w0, rfl, rfl⟩ := hR
  intro H locs ls hP hD hS hl
  refine W.widen (k := mc) (n := ms) hk hn ?_
  exact W.vret hx hb hr (fun t ht hW => ⟨⟨_, ws, rfl, hp, by rw [ht]; exact hP, hD⟩, hS.F ht⟩) hS.2.2 hd hlk
theorem z_zret (F : zF X l rm E cc nl own) {post : Option Value → va_W → Prop} {mc ms : Nat} {ty : FieldType} (hR : zR X (some ty) post mc ms) {v : Int32} (hv : narrow ty (.int v) = .int v) (hd : decode cc pc = .ok (.ireturn, 1)) (hk : k ≤ mc) (hn : n ≤ ms) (hp : post (some (.int v)) ws) : Z X k n ws lv pc [.int v] := by
  obtain ⟨p, l, e, R, s, m, args, below, meth, c, E, A, nL, Q⟩ := X
  obtain ⟨rfl, rfl, rfl, rfl, hx, hb, hml, hown, hts, hK, hA, hlk, hnw⟩ := F
  obtain ⟨hr, w0, rfl, rfl⟩ := hR
  intro H locs ls hP hD hS hl
  refine W.widen (k := mc) (n := ms) hk hn ?_
  exact W.zret hx hb hr hv (fun t ht hW => ⟨⟨_, ws, rfl, hp, by rw [ht]; exact hP, hD⟩, hS.F ht⟩) hS.2.2 hd hlk
theorem z_world (is : List Nat) {ws' : va_W} (hn : va_nd is = true) (h : is.map (fun i => ws[i]?) = ws'.map some) (K : Z X k n ws' lv pc st) : Z X k n ws lv pc st := by
  obtain ⟨p, l, e, R, s, m, args, below, meth, c, E, A, nL, Q⟩ := X
  intro H locs ls hP hD hS hl
  refine K H locs ls (hP.sub is ?_) (hD.sub is hn h) hS hl
  have := congrArg (List.filterMap id) h
  rw [List.filterMap_map, List.filterMap_map] at this
  simpa using this
theorem z_locals (ks : List Nat) {lv' : List (Nat × Value)} (h : lv_pick lv ks = lv') (K : Z X k n ws lv' pc st) : Z X k n ws lv pc st := by
  obtain ⟨p, l, e, R, s, m, args, below, meth, c, E, A, nL, Q⟩ := X
  intro H locs ls hP hD hS hl
  exact K H locs ls hP hD hS (lv_sub hl ks h)
theorem z_widen {k' n' : Nat} (hk : k ≤ k') (hn : n ≤ n') (K : Z X k' n' ws lv pc st) : Z X k n ws lv pc st := by
  obtain ⟨p, l, e, R, s, m, args, below, meth, c, E, A, nL, Q⟩ := X
  intro H locs ls hP hD hS hl
  exact W.widen hk hn (K H locs ls hP hD hS hl)
end ZROWS
theorem z_goodIn {y : MethodName} {b : ByteArray} {nl : Nat} {rt : Option FieldType} (h : Cond.code y b nl rt ∈ lw_tb) : GoodIn lw_tb (ctW y b nl rt) := by
  intro w hw
  have hm : w ∈ lw_tb := by
    rcases List.mem_cons.mp hw with rfl | hw
    · exact h
    · exact hw
  exact ⟨hm, good_of_word (List.all_eq_true.mp lw_good w hm)⟩
section ZCALL
variable {X : zT} {l : Launch} {rm : Room} {E : zE} {cc : ByteArray} {nl : Nat} {own : String} {k n : Nat} {ws : va_W} {lv : List (Nat × Value)} {pc : Nat} {st : List Value}
variable {y : MethodName} {b : ByteArray} {nl' : Nat} {rt : Option FieldType} {rm' : Room} {wc wr : va_W} {As rest : List Value} {post : Option Value → va_W → Prop} {index : Nat}
/-- behind the call: the machine's side of it -/
theorem z_after {p : Program} {l : Launch} {e : Env} {R : Room} {s : State} {m : MethodId} {args : Array Value} {below : List Frame} {meth : Method} {c : Code} {H : Heap} {locs : List Loc} {mc ms : Nat} {E : zE} {A : Nat → Prop} {Q : State → Prop} {ls : Array Slot} {av : Array Value}
    (hr : va_Run p l e R s m args below meth c H locs k n mc ms (F0 m pc ls st) rest (ctQ E wc H.size post av) (va_A wc H.size)) (hP : va_P E.1 vwCl ws H) (hD : va_D A ws) (hS : va_S A s.heap H locs) (hA : ∀ q : Nat, s.heap.size ≤ q → A q)
    (isC isR : List Nat) (hC : isC.map (fun i => ws[i]?) = wc.map some) (hR : isR.map (fun i => ws[i]?) = wr.map some) (hn : va_nd isR = true) (hdis : ∀ i ∈ isR, i ∉ isC)
    (K : ∀ (v : Option Value) (w1 : va_W), post v w1 → ∀ (H1 : Heap) (locs1 : List Loc), va_P E.1 vwCl (wr ++ w1) H1 → va_D A (wr ++ w1) → va_S A s.heap H1 locs1 → W p l e R s m args below meth c H1 locs1 (k + mc) (n + ms) Q (F0 m (pc + 3) ls (v.toList ++ rest))) :
    W p l e R s m args below meth c H locs k n Q (F0 m pc ls st) := by
  have hF := va_free (wc := wc) hD hS hA isC hC
  intro T hT X
  obtain ⟨v, st₀, t, T', L, h0, X', hL, e1, e2, ⟨⟨v', w1, hv, hp, hP1, hD1⟩, hz, hk⟩, go⟩ := hr T hT X
  cases hv
  rw [h0] at hz hk
  have hk' : ∀ q : Nat, q < H.size → ¬ va_A wc H.size q → T'.heap[q]? = H[q]? := fun q h1 h2 => by rw [e1]; exact hk q h1 h2
  obtain ⟨hP2, hD2⟩ := va_join (wr := wr) (w1 := w1) hP hD isC isR hC hR hn hdis hk' hF (by rw [e1]; exact hP1) hD1
  obtain ⟨t2, a1, b1⟩ := K v w1 hp T'.heap (locs ++ L) hP2 hD2
    ⟨Nat.le_trans hS.1 (by rw [e1]; exact hz), fun q h1 h2 => by
      rw [e1, hk q (Nat.lt_of_lt_of_le h1 hS.1) (fun z => h2 (hF q z))]
      exact hS.2.1 q h1 h2, fun q hq => by
      rcases List.mem_append.mp hq with h | h
      · exact hS.2.2 q h
      · exact hF _ (hL q h)⟩ T' rfl X'
  exact ⟨t2, go t2 a1, b1⟩
theorem z_blind {l : Launch} {E : zE} {w0 : va_W} {as : List Value} {sz : Nat} : FrameBlind (va_Pc as (fun U => U.heap.size = sz ∧ va_P E.1 vwCl w0 U.heap ∧ va_K E.1 vwCl (zty E.2) U ∧ va_D (fun _ => True) w0 ∧ nwOk U)) := fun a U g mk q => by
  obtain ⟨q0, q1, qP, qK, qD, qN⟩ := q
  exact ⟨q0, q1, qP, va_K.moved (u := U) (U := U.calling g mk a) (Vm.Alike.refl U.vm) qK, qD, nwOk.same (u := U) rfl qN⟩
theorem z_callV (F : zF X l rm E cc nl own) {a ci q0 : Nat} {r : vw_C} {fs : List Value} (hM : Ct l y b nl' rt rm' E wc (.ref a :: As) post) (na : Nat)
    (isC isR : List Nat) (hC : isC.map (fun i => ws[i]?) = wc.map some) (hR : isR.map (fun i => ws[i]?) = wr.map some) (hn : va_nd isC = true ∧ va_nd isR = true ∧ (isR.all fun i => !(isC.contains i)) = true)
    (hw : Cond.code y b nl' rt ∈ lw_tb ∧ Cond.methodLink own index y ∈ lw_tb ∧ Cond.instanceMethod y ∈ lw_tb ∧ Cond.selects y.cls y y ∈ lw_tb ∧ Cond.initialized y.cls ∈ lw_tb)
    (hy : y.cls ≠ "java/lang/invoke/MethodHandle" ∧ y.cls ≠ "java/lang/invoke/VarHandle" ∧ (parseMethodDescriptor y.desc).map (fun d => d.parameters.length) = some na) (hna : As.length = na)
    (hrm : rm'.frames + 1 ≤ rm.frames ∧ 8 + (nl' + 11) + rm'.locals ≤ rm.locals) (hcs : k + rm'.cells ≤ rm.cells ∧ n + rm'.slots ≤ rm.slots)
    (he : ws[q0]? = some (a, .inr (ci, fs))) (hc : vwCl[ci]? = some r) (hr : r.1 = y.cls)
    (hst : st = As.reverse ++ .ref a :: rest) (hcat : (rest.map fun v => v.category).sum ≤ 8) (hd : decode cc pc = .ok (.invokevirtual index, 3))
    (K : ∀ (v : Option Value) (w1 : va_W), post v w1 → Z X (k + rm'.cells) (n + rm'.slots) (wr ++ w1) lv (pc + 3) (v.toList ++ rest)) : Z X k n ws lv pc st := by
  obtain ⟨p, l, e, R, s, m, args, below, meth, c, E, A, nL, Q⟩ := X
  obtain ⟨rfl, rfl, rfl, rfl, hx, hb, hml, hown, hts, hK, hA, hlk, hnw⟩ := F
  obtain ⟨hn1, hn2, hn3⟩ := hn
  intro H locs ls hP hD hS hl
  have hPc := hP.sub (ws' := wc) isC (by have := congrArg (List.filterMap id) hC; rw [List.filterMap_map, List.filterMap_map] at this; simpa using this)
  have hDc := hD.sub (ws' := wc) isC hn1 hC
  subst hst
  refine z_after (wc := wc) (wr := wr) (post := post) (va_runV (C := y.cls) (As := As) (rest := rest) ⟨hx, hb, hml, hown, hts⟩ (hM H.size) ⟨callB_of (Ts := lw_tb) na hts (z_goodIn hw.1) rfl rfl rfl (hts _ hw.2.2.2.2) (hts _ hw.2.1) hy hrm, hts _ hw.2.2.1, hts _ hw.2.2.2.1⟩ ⟨z_blind (l := l), by rw [← hr]; exact va_recv hK hP hc he, fun U hU hW => ⟨rfl, by rw [hU], by rw [hU]; exact hPc, va_K.moved hW.alike hK, hDc.weaken (fun _ _ _ _ => trivial), hnw.moved hW⟩⟩ rfl hna hl.1 rfl (lv_room hcat) hd hcs) hP hD hS hA isC isR hC hR hn2 (fun i hi h => ?_) (fun v w1 hp H1 locs1 hP1 hD1 hS1 => K v w1 hp H1 locs1 ls hP1 hD1 hS1 hl)
  have := List.all_eq_true.mp hn3 i hi
  simp [h] at this
theorem z_callS (F : zF X l rm E cc nl own) (hM : Ct l y b nl' rt rm' E wc As post) (na : Nat)
    (isC isR : List Nat) (hC : isC.map (fun i => ws[i]?) = wc.map some) (hR : isR.map (fun i => ws[i]?) = wr.map some) (hn : va_nd isC = true ∧ va_nd isR = true ∧ (isR.all fun i => !(isC.contains i)) = true)
    (hw : Cond.code y b nl' rt ∈ lw_tb ∧ Cond.methodLink own index y ∈ lw_tb ∧ Cond.static y ∈ lw_tb ∧ Cond.initialized y.cls ∈ lw_tb)
    (hy : y.cls ≠ "java/lang/invoke/MethodHandle" ∧ y.cls ≠ "java/lang/invoke/VarHandle" ∧ (parseMethodDescriptor y.desc).map (fun d => d.parameters.length) = some na) (hna : As.length = na)
    (hrm : rm'.frames + 1 ≤ rm.frames ∧ 8 + (nl' + 11) + rm'.locals ≤ rm.locals) (hcs : k + rm'.cells ≤ rm.cells ∧ n + rm'.slots ≤ rm.slots)
    (hst : st = As.reverse ++ rest) (hcat : (rest.map fun v => v.category).sum ≤ 8) (hd : decode cc pc = .ok (.invokestatic index, 3))
    (K : ∀ (v : Option Value) (w1 : va_W), post v w1 → Z X (k + rm'.cells) (n + rm'.slots) (wr ++ w1) lv (pc + 3) (v.toList ++ rest)) : Z X k n ws lv pc st := by
  obtain ⟨p, l, e, R, s, m, args, below, meth, c, E, A, nL, Q⟩ := X
  obtain ⟨rfl, rfl, rfl, rfl, hx, hb, hml, hown, hts, hK, hA, hlk, hnw⟩ := F
  obtain ⟨hn1, hn2, hn3⟩ := hn
  intro H locs ls hP hD hS hl
  have hPc := hP.sub (ws' := wc) isC (by have := congrArg (List.filterMap id) hC; rw [List.filterMap_map, List.filterMap_map] at this; simpa using this)
  have hDc := hD.sub (ws' := wc) isC hn1 hC
  subst hst
  refine z_after (wc := wc) (wr := wr) (post := post) (va_runS (As := As) (rest := rest) ⟨hx, hb, hml, hown, hts⟩ (hM H.size) ⟨callB_of (Ts := lw_tb) na hts (z_goodIn hw.1) rfl rfl rfl (hts _ hw.2.2.2) (hts _ hw.2.1) hy hrm, hts _ hw.2.2.1⟩ ⟨z_blind (l := l), fun U hU hW => ⟨rfl, by rw [hU], by rw [hU]; exact hPc, va_K.moved hW.alike hK, hDc.weaken (fun _ _ _ _ => trivial), hnw.moved hW⟩⟩ rfl hna hl.1 rfl (lv_room hcat) hd hcs) hP hD hS hA isC isR hC hR hn2 (fun i hi h => ?_) (fun v w1 hp H1 locs1 hP1 hD1 hS1 => K v w1 hp H1 locs1 ls hP1 hD1 hS1 hl)
  have := List.all_eq_true.mp hn3 i hi
  simp [h] at this
end ZCALL
theorem iX0 : ∀ w ∈ wsX00, w ∈ lw_tb := by decide +kernel
theorem iX1 : ∀ w ∈ wsX10, w ∈ lw_tb := by decide +kernel
theorem iX2 : ∀ w ∈ wsX20, w ∈ lw_tb := by decide +kernel
theorem iX3 : ∀ w ∈ wsX30, w ∈ lw_tb := by decide +kernel
theorem iX4 : ∀ w ∈ wsX40, w ∈ lw_tb := by decide +kernel
theorem iX5 : ∀ w ∈ wsX50, w ∈ lw_tb := by decide +kernel
theorem iX6 : ∀ w ∈ wsX60, w ∈ lw_tb := by decide +kernel
theorem iX7 : ∀ w ∈ wsX70, w ∈ lw_tb := by decide +kernel
theorem iX8 : ∀ w ∈ wsX80, w ∈ lw_tb := by decide +kernel

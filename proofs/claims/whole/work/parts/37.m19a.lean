/-! things that are made -/
def zN (X : zT) : Prop := match X with
  | (_, _, _, _, _, _, _, _, meth, _, _, _, _, _) => meth.name = "<init>"
theorem Ct.ofI {l : Launch} {y : MethodName} {b : ByteArray} {nl : Nat} {rt : Option FieldType} {rm : Room} {E : zE} {w0 : va_W} {as : List Value} {post : Option Value → va_W → Prop} (hy : plainName y.cls = true) (hn : y.name = "<init>") (ha : (lg_sl as).length ≤ nl) {lv : List (Nat × Value)} (hlv : lv_args 0 as = lv)
    (body : ∀ X : zT, zF X l rm E b nl y.cls → zR X rt post rm.cells rm.slots → zN X → Z X 0 0 w0 lv 0 []) : Ct l y b nl rt rm E w0 as post := by
  intro sz
  refine Met.ofW (cc := b) (maxL := nl) (ret := rt) hy rfl ?_
  intro p e s m args below meth c s₁ B hml hv
  obtain ⟨rfl, hsz, hP, hK, hD0, hNw⟩ := hv
  subst hsz
  have hts := atoms_spec (ws := ctW y b nl rt) B.pre
  have hown : s.vm.findClass y.cls = some m.cls := findClass_of_methodNamed B.named
  have hnm : meth.name = "<init>" := (name_of_methodNamed B.named B.method).1.trans hn
  have K := body (p, l, e, rm, s, m, as.toArray, below, meth, c, E, va_A w0 s.heap.size, nl, MQ below (ctQ E w0 s.heap.size post) as.toArray s rm.cells rm.slots (va_A w0 s.heap.size))
    ⟨rfl, rfl, rfl, rfl, B.exec, B.bytes, hml, hown, fun w hw => hts w (List.mem_cons_of_mem _ hw), hK, fun q h => Or.inr h, B.notSynchronized, hNw⟩ ⟨B.returns, w0, rfl, rfl⟩ hnm
  have hl := lv_entry as (n := nl) ha
  rw [lg_entry_eq]
  generalize (lg_sl as ++ List.replicate (nl - (lg_sl as).length) Slot.unset).toArray = ls at hl ⊢
  exact K s.heap [] ls hP hD0.self va_S.rf (by rw [← hlv]; exact hl)
theorem ra_uniq {U : State} {c1 c2 : ClassId} {ty : FieldType} (h1 : va_RA U c1 ty) (h2 : va_RA U c2 ty) : c1 = c2 := by
  cases ty with
  | object C =>
    obtain ⟨_, _, _, _, _, a⟩ := h1
    obtain ⟨_, _, _, _, _, b⟩ := h2
    exact Option.some.inj (a.symm.trans b)
  | _ => exact Option.some.inj (Eq.trans (Eq.symm h1) h2)
section ZNEW
variable {X : zT} {l : Launch} {rm : Room} {E : zE} {cc : ByteArray} {nl : Nat} {own : String} {k n : Nat} {ws : va_W} {lv : List (Nat × Value)} {pc : Nat} {st : List Value}
theorem z_newa (F : zF X l rm E cc nl own) {atype : ArrayType} {ty : FieldType} (t : Nat) (hty : newarray.typeOf atype = ty) {cT : ClassId} (ht : (zty E.2)[t]? = some (cT, ty)) (hw : Cond.arrayClass ty ∈ lw_tb) {nn : Int32} {N : Nat} {a0 : vp_A} (ha : ∀ cA : ClassId, vp_cell cA a0 = arrV cA N (fun _ => defaultValue ty)) (hn : ¬ nn < 0) (hN : nn.toNatClampNeg = N) (hbytes : N * componentBytes ty ≤ 536870912) (hk : k + 1 ≤ rm.cells) (hs : n + N ≤ rm.slots) (hd : decode cc pc = .ok (.newarray atype, 2))
    (K : ∀ q : Nat, Z X (k + 1) (n + N) (ws ++ [(q, .inl (cT, a0))]) lv (pc + 2) (.ref q :: st)) : Z X k n ws lv pc (.int nn :: st) := by
  obtain ⟨p, l, e, R, s, m, args, below, meth, c, E, A, nL, Q⟩ := X
  obtain ⟨rfl, rfl, rfl, rfl, hx, hb, hml, hown, hts, hK, hA, hlk, hnw⟩ := F
  intro H locs ls hP hD hS hl
  refine va_newa (atype := atype) hx hb (by rw [hty]; exact hts _ hw) hty hK hP hD hS hA ha hn hN hbytes hk hs hd (fun q cA H1 hK1 hP1 hD1 hS1 => ?_)
  have h1 := (hK1.2 (zty E.2).length (cA, ty) (by simp)).2
  have h2 := (hK.2 t _ ht).2
  have e1 : cA = cT := ra_uniq h1 h2
  subst e1
  exact K q H1 locs ls hP1 hD1 hS1 hl
theorem z_putF (F : zF X l rm E cc nl own) (hI : zN X) {C : String} {T : u_T} {N ci index a : Nat} (hin : ∀ w ∈ u_ws C T N, w ∈ lw_tb) (ty0 : Nat → FieldType) (hty : ∀ k, k < N → parseFieldDescriptor (T k).2.2.1 = some (ty0 k)) (hnm : ∀ a, a < N → ∀ b, b < N → a ≠ b → (T a).2.1 ≠ (T b).2.1) (q : Nat) {fs : List Value} (he : ws[q]? = some (a, .inr (ci, fs))) (hc : vwCl[ci]? = some (C, T, N)) (f : Nat) (hf : f < N) (hw : Cond.fieldLink own index (T f).1 (T f).2.1 (T f).2.2.1 ∈ lw_tb) (hfin : (T f).2.2.2 = true) (hdecl : (T f).1 = own) {v : Value} (hn : narrow (ty0 f) v = v) (hfit : fits (ty0 f) v = true) (hl0 : f < fs.length) (hd : decode cc pc = .ok (.putfield index, 3)) {ws' : va_W} (hws : ws.set q (a, .inr (ci, fs.set f v)) = ws') (K : Z X k n ws' lv (pc + 3) st) : Z X k n ws lv pc (v :: .ref a :: st) := by
  obtain ⟨p, l, e, R, s, m, args, below, meth, c, E, A, nL, Q⟩ := X
  obtain ⟨rfl, rfl, rfl, rfl, hx, hb, hml, hown, hts, hK, hA, hlk, hnw⟩ := F
  intro H locs ls hP hD hS hl
  subst hws
  exact va_putF hx hb hts hin ty0 hty hnm hown hK hP hD hS q he hc f hf (hts _ hw) (fun _ h => h) hfin hI hdecl (hty f hf) hn hfit hl0 hd (fun H1 locs1 hP1 hD1 hS1 => K H1 locs1 ls hP1 hD1 hS1 hl)
theorem z_objInit (F : zF X l rm E cc nl own) {idx a : Nat} (hw : Cond.methodLink own idx Lib.objectInit ∈ lw_tb ∧ Cond.instanceMethod Lib.objectInit ∈ lw_tb ∧ Cond.code Lib.objectInit ⟨#[0xb1]⟩ 1 none ∈ lw_tb) (hd : decode cc pc = .ok (.invokespecial idx, 3)) (hf : 1 ≤ rm.frames) (hr : 20 ≤ rm.locals) (hcat : (st.map fun v => v.category).sum ≤ 8) (K : Z X k n ws lv (pc + 3) st) : Z X k n ws lv pc (.ref a :: st) := by
  obtain ⟨p, l, e, R, s, m, args, below, meth, c, E, A, nL, Q⟩ := X
  obtain ⟨rfl, rfl, rfl, rfl, hx, hb, hml, hown, hts, hK, hA, hlk, hnw⟩ := F
  intro H locs ls hP hD hS hl
  have hro := lv_room (m := m) (pc := pc) (ls := ls) (rest := .ref a :: st) hcat
  exact W.objInit hx hb hown (hts _ hw.1) (hts _ hw.2.1) (hts _ hw.2.2) rfl (by rw [hml]; exact hl.1) rfl hd hf (by omega) (K H locs ls hP hD hS hl)
theorem z_new (F : zF X l rm E cc nl own) {C : String} {T : u_T} {N ci index : Nat} (hin : ∀ w ∈ u_ws C T N, w ∈ lw_tb) (ty : Nat → FieldType) (hty : ∀ k, k < N → parseFieldDescriptor (T k).2.2.1 = some (ty k)) (hw : Cond.classLink own index C ∈ lw_tb ∧ Cond.instantiable C N ∈ lw_tb ∧ Cond.initialized C ∈ lw_tb) (hc : vwCl[ci]? = some (C, T, N)) {fs : List Value} (hfs : ∀ j, j < N → defaultValue (ty j) = vp_V fs j) (hk : k + 1 ≤ rm.cells) (hs : n + N ≤ rm.slots) (hd : decode cc pc = .ok (.new index, 3))
    (K : ∀ q : Nat, Z X (k + 1) (n + N) (ws ++ [(q, .inr (ci, fs))]) lv (pc + 3) (.ref q :: st)) : Z X k n ws lv pc st := by
  obtain ⟨p, l, e, R, s, m, args, below, meth, c, E, A, nL, Q⟩ := X
  obtain ⟨rfl, rfl, rfl, rfl, hx, hb, hml, hown, hts, hK, hA, hlk, hnw⟩ := F
  intro H locs ls hP hD hS hl
  exact va_new hx hb hts hin ty hty hown (hts _ hw.1) (hts _ hw.2.1) (hts _ hw.2.2) hK hP hD hS hA hc hfs hk hs hd (fun q H1 hP1 hD1 hS1 => K q H1 locs ls hP1 hD1 hS1 hl)
end ZNEW
section ZCALLI
variable {X : zT} {l : Launch} {rm : Room} {E : zE} {cc : ByteArray} {nl : Nat} {own : String} {k n : Nat} {ws : va_W} {lv : List (Nat × Value)} {pc : Nat} {st : List Value}
variable {y : MethodName} {b : ByteArray} {nl' : Nat} {rm' : Room} {wc wr : va_W} {As rest : List Value} {post : Option Value → va_W → Prop} {index : Nat}
theorem z_callI (F : zF X l rm E cc nl own) {a : Nat} (hM : Ct l y b nl' none rm' E wc (.ref a :: As) post) (na : Nat)
    (isC isR : List Nat) (hC : isC.map (fun i => ws[i]?) = wc.map some) (hR : isR.map (fun i => ws[i]?) = wr.map some) (hn : va_nd isC = true ∧ va_nd isR = true ∧ (isR.all fun i => !(isC.contains i)) = true)
    (hw : Cond.code y b nl' none ∈ lw_tb ∧ Cond.methodLink own index y ∈ lw_tb ∧ Cond.instanceMethod y ∈ lw_tb ∧ Cond.initialized y.cls ∈ lw_tb) (hy1 : y.name = "<init>")
    (hy : y.cls ≠ "java/lang/invoke/MethodHandle" ∧ y.cls ≠ "java/lang/invoke/VarHandle" ∧ (parseMethodDescriptor y.desc).map (fun d => d.parameters.length) = some na) (hna : As.length = na)
    (hrm : rm'.frames + 1 ≤ rm.frames ∧ 8 + (nl' + 11) + rm'.locals ≤ rm.locals) (hcs : k + rm'.cells ≤ rm.cells ∧ n + rm'.slots ≤ rm.slots)
    (hst : st = As.reverse ++ .ref a :: rest) (hcat : (rest.map fun v => v.category).sum ≤ 8) (hd : decode cc pc = .ok (.invokespecial index, 3))
    (K : ∀ (v : Option Value) (w1 : va_W), post v w1 → Z X (k + rm'.cells) (n + rm'.slots) (wr ++ w1) lv (pc + 3) (v.toList ++ rest)) : Z X k n ws lv pc st := by
  obtain ⟨p, l, e, R, s, m, args, below, meth, c, E, A, nL, Q⟩ := X
  obtain ⟨rfl, rfl, rfl, rfl, hx, hb, hml, hown, hts, hK, hA, hlk, hnw⟩ := F
  obtain ⟨hn1, hn2, hn3⟩ := hn
  intro H locs ls hP hD hS hl
  have hPc := hP.sub (ws' := wc) isC (by have := congrArg (List.filterMap id) hC; rw [List.filterMap_map, List.filterMap_map] at this; simpa using this)
  have hDc := hD.sub (ws' := wc) isC hn1 hC
  subst hst
  refine z_after (wc := wc) (wr := wr) (post := post) (va_runI (b := a) (As := As) (rest := rest) ⟨hx, hb, hml, hown, hts⟩ (hM H.size) ⟨callB_of (Ts := lw_tb) na hts (z_goodIn hw.1) rfl rfl rfl (hts _ hw.2.2.2) (hts _ hw.2.1) hy hrm, hy1, hts _ hw.2.2.1⟩ ⟨z_blind (l := l), fun U hU hW => ⟨rfl, by rw [hU], by rw [hU]; exact hPc, va_K.moved hW.alike hK, hDc.weaken (fun _ _ _ _ => trivial), hnw.moved hW⟩⟩ rfl hna hl.1 rfl (lv_room hcat) hd hcs) hP hD hS hA isC isR hC hR hn2 (fun i hi h => ?_) (fun v w1 hp H1 locs1 hP1 hD1 hS1 => K v w1 hp H1 locs1 ls hP1 hD1 hS1 hl)
  have := List.all_eq_true.mp hn3 i hi
  simp [h] at this
theorem z_callIN (F : zF X l rm E cc nl own) {a : Nat} {host : String} (hM : Ct l y b nl' none rm' E wc (.ref a :: As) post) (na : Nat)
    (isC isR : List Nat) (hC : isC.map (fun i => ws[i]?) = wc.map some) (hR : isR.map (fun i => ws[i]?) = wr.map some) (hn : va_nd isC = true ∧ va_nd isR = true ∧ (isR.all fun i => !(isC.contains i)) = true)
    (hw : Cond.code y b nl' none ∈ lw_tb ∧ (Cond.methodLinkNest own index y host ∈ lw_tbl ∧ nestB (.methodLinkNest own index y host) = true) ∧ Cond.instanceMethod y ∈ lw_tb ∧ Cond.initialized y.cls ∈ lw_tb) (hy1 : y.name = "<init>")
    (hy : y.cls ≠ "java/lang/invoke/MethodHandle" ∧ y.cls ≠ "java/lang/invoke/VarHandle" ∧ (parseMethodDescriptor y.desc).map (fun d => d.parameters.length) = some na) (hna : As.length = na)
    (hrm : rm'.frames + 1 ≤ rm.frames ∧ 8 + (nl' + 11) + rm'.locals ≤ rm.locals) (hcs : k + rm'.cells ≤ rm.cells ∧ n + rm'.slots ≤ rm.slots)
    (hst : st = As.reverse ++ .ref a :: rest) (hcat : (rest.map fun v => v.category).sum ≤ 8) (hd : decode cc pc = .ok (.invokespecial index, 3))
    (K : ∀ (v : Option Value) (w1 : va_W), post v w1 → Z X (k + rm'.cells) (n + rm'.slots) (wr ++ w1) lv (pc + 3) (v.toList ++ rest)) : Z X k n ws lv pc st := by
  obtain ⟨p, l, e, R, s, m, args, below, meth, c, E, A, nL, Q⟩ := X
  obtain ⟨rfl, rfl, rfl, rfl, hx, hb, hml, hown, hts, hK, hA, hlk, hnw⟩ := F
  obtain ⟨hn1, hn2, hn3⟩ := hn
  intro H locs ls hP hD hS hl
  have hPc := hP.sub (ws' := wc) isC (by have := congrArg (List.filterMap id) hC; rw [List.filterMap_map, List.filterMap_map] at this; simpa using this)
  have hDc := hD.sub (ws' := wc) isC hn1 hC
  subst hst
  refine z_after (wc := wc) (wr := wr) (post := post) (va_runIN (host := host) (b := a) (As := As) (rest := rest) ⟨hx, hb, hml, hown, hts⟩ (hM H.size) ⟨va_cnB (Ts := lw_tb) na hts (z_goodIn hw.1) rfl rfl rfl (hnw _ hw.2.1.1 hw.2.1.2) (hts _ hw.2.2.2) hy hrm, hy1, hts _ hw.2.2.1⟩ ⟨z_blind (l := l), fun U hU hW => ⟨rfl, by rw [hU], by rw [hU]; exact hPc, va_K.moved hW.alike hK, hDc.weaken (fun _ _ _ _ => trivial), hnw.moved hW⟩⟩ rfl hna hl.1 rfl (lv_room hcat) hd hcs) hP hD hS hA isC isR hC hR hn2 (fun i hi h => ?_) (fun v w1 hp H1 locs1 hP1 hD1 hS1 => K v w1 hp H1 locs1 ls hP1 hD1 hS1 hl)
  have := List.all_eq_true.mp hn3 i hi
  simp [h] at this
end ZCALLI
abbrev zS0 : zS := (fun _ => 0, fun _ => 0, fun _ _ => 0, fun _ _ => 0)

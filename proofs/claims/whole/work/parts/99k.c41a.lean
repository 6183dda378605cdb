/-! throwing and catching over the Z layer -/
/-- words on what may be cast and on what is declared: they move with the caches too -/
def xB : Cond → Bool
  | .castable .. => true
  | .declares .. => true
  | _ => false
theorem xat_in {L : List Cond} {ps : List Nat} (he : L = ps.filterMap (fun i => lw_tbl[i]?)) (hg : L.all (fun w => goodWord w || xB w) = true) : ∀ w ∈ L, w ∈ lw_tb ∨ (w ∈ lw_tbl ∧ xB w = true) := by
  intro w hw
  have h1 := List.all_eq_true.mp hg w hw
  rw [Bool.or_eq_true] at h1
  rw [he] at hw
  obtain ⟨i, -, hi⟩ := List.mem_filterMap.mp hw
  rcases h1 with h1 | h1
  · exact Or.inl (List.mem_filter.mpr ⟨List.mem_of_getElem? hi, h1⟩)
  · exact Or.inr ⟨List.mem_of_getElem? hi, h1⟩
theorem xB.warm {w : Cond} {s U : State} (hb : xB w = true) (hW : s.WarmedH U.vm) (h : va_Nw w s) : va_Nw w U := by
  cases w <;> first | exact va_Nw.warmC hW h | exact va_Nw.warmD hW h | exact absurd hb (by simp [xB])
theorem xB.tab {w : Cond} (hb : xB w = true) : w.onTables = true := by
  cases w <;> first | rfl | exact absurd hb (by simp [xB])
def xNm : List String := ["java/lang/RuntimeException", "java/lang/Exception"]
abbrev xClI : String := "java/lang/IllegalStateException"
abbrev xIxI : Nat := 7
abbrev xIcI : Nat := 86
abbrev xIkI : Nat := 82
abbrev xCdI : ByteArray := prog_12_method_2_code
def xAtI : List Cond := (Bundle.ownAtomsX "LiveQueries" xIcI xClI xIxI xCdI xNm).filter vx_no
set_option maxRecDepth 100000 in
theorem xAtI_e : xAtI = [81, 638, 647, 650, 653, 655, 639, 640, 92, 93, 641, 646, 651, 671, 628, 672, 630, 673, 632, 642, 644, 634, 667, 668, 670, 634, 658, 659, 660, 661, 620, 661, 662, 663, 664, 622, 664, 665, 666, 667, 624, 657, 617, 618, 625, 626, 627, 629, 631, 633, 637, 636, 635].filterMap (fun i => lw_tbl[i]?) := by decide +kernel
set_option maxRecDepth 100000 in
theorem xAtI_g : xAtI.all (fun w => goodWord w || xB w) = true := by decide +kernel
theorem xAtI_in : ∀ w ∈ xAtI, w ∈ lw_tb ∨ (w ∈ lw_tbl ∧ xB w = true) := xat_in xAtI_e xAtI_g
theorem xWI : Cond.classLink "LiveQueries" xIkI xClI ∈ lw_tb ∧ Cond.initialized xClI ∈ lw_tb := ⟨tb 616 (by decide +kernel) (by decide +kernel), tb 84 (by decide +kernel) (by decide +kernel)⟩
theorem xDI : decode xCdI 0 = .ok (.aload_n 0, 1) ∧ decode xCdI 1 = .ok (.aload_n 1, 1) ∧ decode xCdI 2 = .ok (.invokespecial xIxI, 3) ∧ decode xCdI 5 = .ok (.return_, 1) := ⟨by decide +kernel, by decide +kernel, by decide +kernel, by decide +kernel⟩
theorem xLI : Cond.classLink "LiveQueriesLaw" 13 xClI ∈ lw_tb := tb 607 (by decide +kernel) (by decide +kernel)
theorem xCI : Cond.castable xClI xClI ∈ lw_tbl := List.mem_of_getElem? (i := 618) (by decide +kernel)
abbrev xClN : String := "java/util/NoSuchElementException"
abbrev xIxN : Nat := 13
abbrev xIcN : Nat := 130
abbrev xIkN : Nat := 126
abbrev xCdN : ByteArray := prog_18_method_4_code
def xAtN : List Cond := (Bundle.ownAtomsX "LiveQueries" xIcN xClN xIxN xCdN xNm).filter vx_no
set_option maxRecDepth 100000 in
theorem xAtN_e : xAtN = [81, 638, 647, 650, 653, 655, 639, 640, 92, 93, 641, 646, 651, 671, 628, 672, 630, 673, 632, 642, 644, 634, 667, 668, 670, 634, 799, 800, 801, 661, 620, 661, 662, 663, 664, 622, 664, 665, 666, 667, 624, 798, 789, 790, 791, 649, 792, 793, 794, 795, 637, 636, 796].filterMap (fun i => lw_tbl[i]?) := by decide +kernel
set_option maxRecDepth 100000 in
theorem xAtN_g : xAtN.all (fun w => goodWord w || xB w) = true := by decide +kernel
theorem xAtN_in : ∀ w ∈ xAtN, w ∈ lw_tb ∨ (w ∈ lw_tbl ∧ xB w = true) := xat_in xAtN_e xAtN_g
theorem xWN : Cond.classLink "LiveQueries" xIkN xClN ∈ lw_tb ∧ Cond.initialized xClN ∈ lw_tb := ⟨tb 788 (by decide +kernel) (by decide +kernel), tb 85 (by decide +kernel) (by decide +kernel)⟩
theorem xDN : decode xCdN 0 = .ok (.aload_n 0, 1) ∧ decode xCdN 1 = .ok (.aload_n 1, 1) ∧ decode xCdN 2 = .ok (.invokespecial xIxN, 3) ∧ decode xCdN 5 = .ok (.return_, 1) := ⟨by decide +kernel, by decide +kernel, by decide +kernel, by decide +kernel⟩
theorem xLN : Cond.classLink "LiveQueriesLaw" 19 xClN ∈ lw_tb := tb 782 (by decide +kernel) (by decide +kernel)
theorem xCN : Cond.castable xClN xClN ∈ lw_tbl := List.mem_of_getElem? (i := 790) (by decide +kernel)
def xStr : List (Nat × String) := [(84, "there are six queries"), (128, "no such row"), (138, "no such group"), (152, "no such thing to tell of a group"), (167, "no such object"), (189, "no such thing to tell of an object")]
/-- what a throw wants of the heap: Throwable's two statics, the texts -/
def xOk (A : Nat → Prop) (U : State) : Prop := vx_Zq Bundle.tN "UNASSIGNED_STACK" Bundle.steD A U U.heap ∧ vx_Zq Bundle.tN "SUPPRESSED_SENTINEL" Bundle.listD A U U.heap ∧ (∀ q ∈ xStr, ∃ sa : Nat, vk_R "LiveQueries" q.1 q.2 sa U) ∧ ∀ w ∈ lw_tbl, xB w = true → va_Nw w U
theorem xOk.same {A : Nat → Prop} {u U : State} (hv : u.vm = U.vm) (hh : u.heap = U.heap) (h : xOk A u) : xOk A U := by
  have ha : u.vm.Alike U.vm := by rw [hv]; exact Vm.Alike.refl _
  refine ⟨by rw [← hh]; exact vx_Zq.moved ha h.1, by rw [← hh]; exact vx_Zq.moved ha h.2.1, fun q hq => ?_, fun w hw hb => va_Nw.same (xB.tab hb) hv (h.2.2.2 w hw hb)⟩
  obtain ⟨sa, hs⟩ := h.2.2.1 q hq
  exact ⟨sa, vk_R.same hv.symm hs⟩
theorem xOk.to {A B : Nat → Prop} {s U : State} {H : Heap} {locs : List Loc} (h : xOk A s) (hS : va_S A s.heap H locs) (hH : U.heap = H) (hW : s.WarmedH U.vm) (hB : ∀ q : Nat, B q → A q) : xOk B U := by
  refine ⟨?_, ?_, fun q hq => ?_, fun w hw hb => xB.warm hb hW (h.2.2.2 w hw hb)⟩
  · rw [hH]; exact ((vx_Zq.moved hW.alike h.1).kept hS.2.1).narrow hB
  · rw [hH]; exact ((vx_Zq.moved hW.alike h.2.1).kept hS.2.1).narrow hB
  · obtain ⟨sa, hs⟩ := h.2.2.1 q hq
    exact ⟨sa, vk_R.warm hW hs⟩
abbrev xPre (E : zE) (w0 : va_W) (as : List Value) (sz : Nat) : Array Value → State → Prop := va_Pc as (fun U => U.heap.size = sz ∧ va_P E.1 vwCl w0 U.heap ∧ va_K E.1 vwCl (zty E.2) U ∧ va_D (fun _ => True) w0 ∧ nwOk U ∧ xOk (va_A w0 sz) U)
theorem x_blind {E : zE} {w0 : va_W} {as : List Value} {sz : Nat} : FrameBlind (xPre E w0 as sz) := fun a U g mk q => by
  obtain ⟨q0, q1, qP, qK, qD, qN, qX⟩ := q
  exact ⟨q0, q1, qP, va_K.moved (u := U) (U := U.calling g mk a) (Vm.Alike.refl U.vm) qK, qD, nwOk.same (u := U) rfl qN, xOk.same (u := U) rfl rfl qX⟩
def xcQ (E : zE) (w0 : va_W) (sz : Nat) (cl : String) (w1 : va_W) : String → State → State → Prop := fun Ec st t => Ec = cl ∧ va_P E.1 vwCl w1 t.heap ∧ va_D (va_A w0 sz) w1 ∧ va_F (va_A w0 sz) st t
def xNo : Array Value → State → Outcome → State → Prop := fun _ _ _ _ => False
/-- a contract of a method that throws: the class, the world behind -/
def CtX (l : Launch) (y : MethodName) (b : ByteArray) (nl : Nat) (rt : Option FieldType) (rm : Room) (E : zE) (w0 : va_W) (as : List Value) (cl : String) (w1 : va_W) : Prop :=
  ∀ sz : Nat, vx_Met l y (ctW y b nl rt) rm (xPre E w0 as sz) xNo (xcQ E w0 sz cl w1) rm.cells rm.slots (va_A w0 sz)
def zTh (X : zT) (cl : String) (w1 : va_W) (mc ms : Nat) : Prop :=
  match X with
  | (_, l, _, _, s, _, args, below, _, c, E, A, _, Q) => l.stackTraces = false ∧ xOk A s ∧ (∀ x ∈ c.exceptionTable.toList, False) ∧ ∃ w0 : va_W, A = va_A w0 s.heap.size ∧ Q = vx_MQ below xNo (xcQ E w0 s.heap.size cl w1) args s mc ms A
theorem CtX.of {l : Launch} {y : MethodName} {b : ByteArray} {nl : Nat} {rt : Option FieldType} {rm : Room} {E : zE} {w0 : va_W} {as : List Value} {cl : String} {w1 : va_W} (hl : l.stackTraces = false) (hy : plainName y.cls = true) (ha : (lg_sl as).length ≤ nl) {lv : List (Nat × Value)} (hlv : lv_args 0 as = lv)
    (body : ∀ X : zT, zF X l rm E b nl y.cls → zTh X cl w1 rm.cells rm.slots → Z X 0 0 w0 lv 0 []) : CtX l y b nl rt rm E w0 as cl w1 := by
  intro sz
  refine vx_ofW (cc := b) (maxL := nl) (ret := rt) hy rfl ?_
  intro p e s m args below meth c s₁ B hml hnt hv
  obtain ⟨rfl, hsz, hP, hK, hD0, hNw, hX⟩ := hv
  subst hsz
  have hts := atoms_spec (ws := ctW y b nl rt) B.pre
  have hown : s.vm.findClass y.cls = some m.cls := findClass_of_methodNamed B.named
  have K := body (p, l, e, rm, s, m, as.toArray, below, meth, c, E, va_A w0 s.heap.size, nl, vx_MQ below xNo (xcQ E w0 s.heap.size cl w1) as.toArray s rm.cells rm.slots (va_A w0 s.heap.size))
    ⟨rfl, rfl, rfl, rfl, B.exec, B.bytes, hml, hown, fun w hw => hts w (List.mem_cons_of_mem _ hw), hK, fun q h => Or.inr h, B.notSynchronized, hNw⟩ ⟨hl, hX, hnt, w0, rfl, rfl⟩
  have hlx := lv_entry as (n := nl) ha
  rw [lg_entry_eq]
  generalize (lg_sl as ++ List.replicate (nl - (lg_sl as).length) Slot.unset).toArray = ls at hlx ⊢
  exact K s.heap [] ls hP hD0.self va_S.rf (by rw [← hlv]; exact hlx)
section CXW
variable {p : Program} {l : Launch} {e : Env} {R : Room} {s : State} {m : MethodId} {args : Array Value} {below : List Frame} {meth : Method} {c : Code} {H : Heap} {locs : List Loc} {cells slots : Nat} {free : Addr → Prop} {ls : Array Slot} {rest : List Value} {Qc : Array Value → State → Outcome → State → Prop} {XC : String → State → State → Prop}
set_option maxHeartbeats 4000000 in
theorem cx_throw {cc : ByteArray} {pc : Nat} (hexec : p.tables.exec = Jvm.exec) (hb : c.code = cc) (hl : l.stackTraces = false) {own cls text : String} {names : List String} {ik is ic ix mc ms sa : Nat} {rx : ByteArray} {A : Nat → Prop}
    (hx4 : decode rx 0 = .ok (.aload_n 0, 1) ∧ decode rx 1 = .ok (.aload_n 1, 1) ∧ decode rx 2 = .ok (.invokespecial ix, 3) ∧ decode rx 5 = .ok (.return_, 1))
    (hown : s.vm.findClass own = some m.cls) (hcls : Bundle.fit cls = true) (hnames : ∀ n ∈ names, Bundle.fit n = true)
    (hk : (Cond.classLink own ik cls).before args s = true) (hini : (Cond.initialized cls).before args s = true) (hstr : vk_R own is text sa s) (hat : ∀ w ∈ (Bundle.ownAtomsX own ic cls ix rx names).filter vx_no, w.before args s = true)
    (hgood : ∀ w ∈ Cond.classLink own ik cls :: Cond.initialized cls :: (Bundle.ownAtomsX own ic cls ix rx names).filter vx_no, vx_ot w = true)
    (hU : vx_Zq Bundle.tN "UNASSIGNED_STACK" Bundle.steD A s s.heap) (hN : vx_Zq Bundle.tN "SUPPRESSED_SENTINEL" Bundle.listD A s s.heap) (hS : va_S A s.heap H locs) (hsize : ls.size = c.maxLocals)
    (d0 : decode cc pc = .ok (.new ik, 3)) (d3 : decode cc (pc + 3) = .ok (.dup, 1)) (d4 : decode cc (pc + 4) = .ok (.ldc is, 2)) (d6 : decode cc (pc + 6) = .ok (.invokespecial ic, 3)) (d9 : decode cc (pc + 9) = .ok (.athrow, 1))
    (hout : ∀ x ∈ c.exceptionTable.toList, covers x (pc + 9) = false)
    (hRframes : names.length + 3 < R.frames) (hRlocals : (rest.map fun v => v.category).sum + (13 * (names.length + 1) + 43) ≤ R.locals) (hRcells : cells + 1 ≤ R.cells) (hRslots : slots + 6 ≤ R.slots) (hlocks : meth.locks = false)
    (hx : ∀ t : State, s.vm.Alike t.vm → H.size ≤ t.heap.size → (∀ q : Nat, q < H.size → t.heap[q]? = H[q]?) → XC cls s t)
    (hf : ∀ z ∈ locs, free z.base) (hc : cells + 1 ≤ mc) (hs : slots + 6 ≤ ms) :
    W p l e R s m args below meth c H locs cells slots (vx_MQ below Qc XC args s mc ms free) (F0 m pc ls rest) := by
  intro T hT X
  have htr : e.platform.stackTraces = false := (show e.platform.stackTraces = l.stackTraces by rw [X.admits.platform]).trans hl
  have Y := vx_rebase X (R' := { frames := R.frames, locals := R.locals, cells := 1, slots := 6 }) (Nat.le_refl _) (Nat.le_refl _) hRcells hRslots
  obtain ⟨s', hA⟩ : ∃ z, z = (T.setVm s.vm).setFrames (.invoking m args :: below) := ⟨_, rfl⟩
  rw [← hA] at Y
  have hvm : s'.vm = s.vm := by rw [hA]; rfl
  have hhp : s'.heap = H := by rw [hA]; exact hT
  have hW0 : s.WarmedH s'.vm := by rw [hvm]; exact State.WarmedH.refl s
  have hat' : ∀ w ∈ (Bundle.ownAtomsX own ic cls ix rx names).filter vx_no, w.before args s' = true := fun w hw => vx_ot_at hW0 hvm.symm (hgood w (List.mem_cons_of_mem _ (List.mem_cons_of_mem _ hw))) (hat w hw)
  have hk' : (Cond.classLink own ik cls).before args s' = true := vx_ot_at hW0 hvm.symm (hgood _ List.mem_cons_self) hk
  have hini' : (Cond.initialized cls).before args s' = true := vx_ot_at hW0 hvm.symm (hgood _ (List.mem_cons_of_mem _ List.mem_cons_self)) hini
  have hU' : vx_Zq Bundle.tN "UNASSIGNED_STACK" Bundle.steD A s' s'.heap := by rw [hhp]; exact vx_Zq.moved hW0.alike (hU.kept hS.2.1)
  have hN' : vx_Zq Bundle.tN "SUPPRESSED_SENTINEL" Bundle.listD A s' s'.heap := by rw [hhp]; exact vx_Zq.moved hW0.alike (hN.kept hS.2.1)
  have h : ∀ w ∈ Bundle.ownAtomsX own ic cls ix rx names, w.before args s' = true := vx_own hat' (vx_isRefq hU'.1) (vx_isRefq hN'.1) hU'.2.word hN'.2.word
  have hown' : s'.vm.findClass own = some m.cls := by rw [hvm]; exact hown
  have hins : (Cond.instantiable cls 6).before args s' = true := h _ (by simp [Bundle.ownAtomsX])
  obtain ⟨vm₁, cX, kX, hfX, hkX, -, -, X₁, st1⟩ := Y.newCold hexec (own := own) (C := cls) (index := ik) (n := 6) hown' hk' hins hini'
    (g := F0 m pc ls rest) rfl (by rw [hb]; exact d0) (Nat.le_refl _) (Nat.le_refl _)
  generalize hT1 : (T.setVm vm₁).pushCell { cls := cX, slots := kX.instanceTypes.map defaultValue, vm := .none } = T1 at X₁ st1
  have hcat : (Value.ref T.heap.size).category = 1 := rfl
  have hcellA : T1.heap[T.heap.size]? = some (freshCell cX kX) := by rw [← hT1]; exact State.heap_pushCell_size _ _
  have d3' : decode c.code (pc + 3) = .ok (.dup, 1) := by rw [hb]; exact d3
  have d4' : decode c.code (pc + 4) = .ok (.ldc is, 2) := by rw [hb]; exact d4
  have hstr' : vk_R own is text sa s' := vk_R.warm hW0 hstr
  obtain ⟨U, hsteps, hrun, hend, hW, hsame, ce, hce, hO, hO2⟩ := cx_ctor X₁ hexec htr (own := own) (cls := cls) (names := names) (ic := ic) hx4.1 hx4.2.1 hx4.2.2.1 hx4.2.2.2 hown' hcls hnames h (fun x hx => nomatch hx) hfX hkX hcellA (by rw [hhp, hT]; exact Nat.le_refl _) (msg := .ref sa) rfl
    (g := { method := m, pc := pc + 6, locals := ls, stack := .ref sa :: .ref T.heap.size :: .ref T.heap.size :: rest, locked := none }) rfl hsize rfl rfl (rest := rest) rfl
    (by rw [hb]; exact d6) (by rw [hb]; exact d9) hout hRframes (by simp only [List.map_cons, List.sum_cons, hcat]; omega) hlocks
  obtain ⟨f1, f2⟩ := vx_frame hsame
  rw [hhp] at f1 f2
  have hWs : s.WarmedH U.vm := State.WarmedH.trans hW0 hW
  have hcl : s.vm.findClass cls = some ce.cls := by
    rw [hvm] at hO
    exact hO
  have hall : s.sameButNew ({ U with vm := s.vm } : State) locs mc ms := by
    subst hA
    obtain ⟨e1, e2⟩ := hsame
    rw [State.setFrames_setFrames] at e1
    have h2 : (T.setVm s.vm).sameButNew ({ U with vm := s.vm } : State) [] (0 + 1) (0 + 6) := ⟨e1, e2⟩
    have h3 := X.same.trans h2
    rw [List.append_nil] at h3
    exact h3.mono hc hs
  refine ⟨U, ?_, .threw T.heap.size, hrun, hend, Or.inr ⟨T.heap.size, rfl, cls, ce, locs, hx U hWs.alike f1 (fun q hq => f2 q hq (fun z hz => nomatch hz)), hce, hO2, hcl, hWs, hall, hf⟩⟩
  refine st1 _ ?_
  show Steps p.tables e below (T1.setTop { method := m, pc := pc + 3, locals := ls, stack := .ref T.heap.size :: rest, locked := none }) _
  jvm_step X₁.here [X₁.here.top, hexec, d3', Value.category]
  exact X₁.ldcString hexec (own := own) (text := text) (index := is) (a := sa) hown' hstr'.1 hstr'.2
    (g := { method := m, pc := pc + 4, locals := ls, stack := .ref T.heap.size :: .ref T.heap.size :: rest, locked := none }) rfl d4' _ hsteps
end CXW
section CXZ
variable {X : zT} {l : Launch} {rm : Room} {E : zE} {cc : ByteArray} {nl : Nat} {own : String} {k n : Nat} {ws : va_W} {lv : List (Nat × Value)} {pc : Nat} {st : List Value}
/-- 'throw new E("text")' ends a method that throws -/
theorem z_throw (F : zF X l rm E cc nl "LiveQueries") {cl text : String} {ik is ic ix mc ms : Nat} {rx : ByteArray} (hT : zTh X cl ws mc ms)
    (hx4 : decode rx 0 = .ok (.aload_n 0, 1) ∧ decode rx 1 = .ok (.aload_n 1, 1) ∧ decode rx 2 = .ok (.invokespecial ix, 3) ∧ decode rx 5 = .ok (.return_, 1))
    (hcl : Bundle.fit cl = true) (hw : Cond.classLink "LiveQueries" ik cl ∈ lw_tb ∧ Cond.initialized cl ∈ lw_tb) (hat : ∀ w ∈ (Bundle.ownAtomsX "LiveQueries" ic cl ix rx xNm).filter vx_no, w ∈ lw_tb ∨ (w ∈ lw_tbl ∧ xB w = true)) (hs : (is, text) ∈ xStr)
    (d0 : decode cc pc = .ok (.new ik, 3)) (d3 : decode cc (pc + 3) = .ok (.dup, 1)) (d4 : decode cc (pc + 4) = .ok (.ldc is, 2)) (d6 : decode cc (pc + 6) = .ok (.invokespecial ic, 3)) (d9 : decode cc (pc + 9) = .ok (.athrow, 1))
    (hrm : 5 < rm.frames ∧ 82 ≤ rm.locals) (hcs : k + 1 ≤ rm.cells ∧ n + 6 ≤ rm.slots) (hc : k + 1 ≤ mc) (hn : n + 6 ≤ ms) : Z X k n ws lv pc [] := by
  obtain ⟨p, l, e, R, s, m, args, below, meth, c, E, A, nL, Q⟩ := X
  obtain ⟨rfl, rfl, rfl, rfl, hx, hb, hml, hown, hts, hK, hA, hlk, hnw⟩ := F
  obtain ⟨hl, hxo, hnt, w0, rfl, rfl⟩ := hT
  obtain ⟨sa, hsa⟩ := hxo.2.2.1 _ hs
  intro H locs ls hP hD hS hlv
  have hgw : ∀ w ∈ lw_tb, vx_ot w = true := fun w hw => by
    have := List.all_eq_true.mp lw_good w hw
    unfold vx_ot
    rw [this, Bool.or_true]
  refine cx_throw (own := "LiveQueries") (cls := cl) (text := text) (names := xNm) (ik := ik) (is := is) (ic := ic) (ix := ix) (rx := rx) (sa := sa) hx hb hl hx4 hown hcl (by decide) (hts _ hw.1) (hts _ hw.2) hsa (fun w h => (hat w h).elim (hts _) (fun e9 => va_Nw.use (A := args) (xB.tab e9.2) (hxo.2.2.2 w e9.1 e9.2))) (fun w h => ?_) hxo.1 hxo.2.1 hS (by rw [hml]; exact hlv.1) d0 d3 d4 d6 d9 (fun x hx => absurd (hnt x hx) id) hrm.1 (by simpa [xNm] using hrm.2) hcs.1 hcs.2 hlk (fun t _ h1 h2 => ⟨rfl, ?_, hD, ?_⟩) hS.2.2 hc hn
  · rcases List.mem_cons.mp h with rfl | h
    · exact hgw _ hw.1
    · rcases List.mem_cons.mp h with rfl | h
      · exact hgw _ hw.2
      · rcases hat w h with h9 | h9
        · exact hgw _ h9
        · unfold vx_ot; rw [xB.tab h9.2, Bool.true_or]
  · exact hP.kept (fun k9 q hq => h2 _ (vx_lt hP hq))
  · exact ⟨Nat.le_trans hS.1 h1, fun q h3 h4 => (h2 q (Nat.lt_of_lt_of_le h3 hS.1)).trans (hS.2.1 q h3 h4)⟩
end CXZ

set_option maxRecDepth 100000 in
theorem nwL_0 : Cond.classLink "LiveQueriesLaw" 8 "LiveQueries" ∈ lw_tb ∧ Cond.instantiable "LiveQueries" 5 ∈ lw_tb ∧ Cond.initialized "LiveQueries" ∈ lw_tb := ⟨tb 86 (by decide +kernel) (by decide +kernel), tb 87 (by decide +kernel) (by decide +kernel), tb 70 (by decide +kernel) (by decide +kernel)⟩
set_option maxRecDepth 100000 in
theorem nwL_8 : Cond.classLink "LiveQueriesLaw" 29 "LiveQueriesModel" ∈ lw_tb ∧ Cond.instantiable "LiveQueriesModel" 38 ∈ lw_tb ∧ Cond.initialized "LiveQueriesModel" ∈ lw_tb := ⟨tb 852 (by decide +kernel) (by decide +kernel), tb 853 (by decide +kernel) (by decide +kernel), tb 78 (by decide +kernel) (by decide +kernel)⟩
set_option maxRecDepth 100000 in
theorem wiL_4 : Cond.code yX7_init cX7_init 3 none ∈ lw_tb ∧ Cond.methodLink "LiveQueriesLaw" 28 yX7_init ∈ lw_tb ∧ Cond.instanceMethod yX7_init ∈ lw_tb ∧ Cond.initialized yX7_init.cls ∈ lw_tb := ⟨tb 90 rfl rfl, tb 88 (by decide +kernel) (by decide +kernel), tb 89 (by decide +kernel) (by decide +kernel), tb 70 (by decide +kernel) (by decide +kernel)⟩
set_option maxRecDepth 100000 in
theorem wiL_12 : Cond.code yX8_init cX8_init 1 none ∈ lw_tb ∧ Cond.methodLink "LiveQueriesLaw" 31 yX8_init ∈ lw_tb ∧ Cond.instanceMethod yX8_init ∈ lw_tb ∧ Cond.initialized yX8_init.cls ∈ lw_tb := ⟨tb 856 rfl rfl, tb 854 (by decide +kernel) (by decide +kernel), tb 855 (by decide +kernel) (by decide +kernel), tb 78 (by decide +kernel) (by decide +kernel)⟩
/-! THE CLAIM OUT OF ONE WALK OF THE LAW'S BODY. Your part is whole_start (and what it stands on); all else here is the same for every law, but numbers. -/
def R_law : String := "LiveQueriesLaw"
def lw_P (b : Addr) (xs : List Int32) (args : Array Value) (s : State) : Prop := args = #[.ref b] ∧ s.IntsAt b xs ∧ xs.length ≤ 2560 ∧ (Jvm.Cond.and given_1 narrow_1).before args s = true
def lw_Q (_ : Array Value) (s : State) (o : Outcome) (t : State) : Prop := o = .returned (some (.int 1)) ∧ Framed s o t [] 601024 7293034
def lw_Z (below : List Frame) (a : Array Value) (s : State) : State → Prop := fun t => ∃ o, t.status = .running ∧ Ended t below o ∧ lw_Q a s o t
/-- the law's own end, with 1 on the stack, nothing written that was there before, its room as the claim has it -/
theorem lw_ret {p : Program} {l : Launch} {e : Env} {s : State} {m : MethodId} {below : List Frame} {meth : Method} {c : Code} {b : Nat} (hx : p.tables.exec = Jvm.exec) (hb : c.code = code) (hr : meth.sig.returnType = ret) (hlocks : meth.locks = false) {pc : Nat} {H : Heap} {ls : Array Slot} (hdg : decode code pc = .ok (.ireturn, 1)) : W p l e room_1 s m #[Value.ref b] below meth c H [] 601024 7293034 (lw_Z below #[Value.ref b] s) (F0 m pc ls [.int 1]) := by
  intro T hT X
  obtain ⟨fs, hret, hrun, hended, hW, hframe⟩ := X.leave (v := some (.int 1)) (hlocks := hlocks) (fun h => by rw [hr] at h; cases h)
  have hmeth' : T.vm.method? m = some meth := X.method'
  refine ⟨T.setFrames fs, ?_, .returned (some (.int 1)), hrun, hended, rfl, ⟨_, rfl⟩, hW, hframe⟩
  jvm_step X.here [X.here.top, hx, hb, hdg, hmeth', hr, ret, narrow_b1]
  (try refine ⟨rfl, ?_⟩); (try refine ⟨rfl, ?_⟩)
  first | (intro acts; rw [hret _ acts rfl rfl rfl]) | rw [hret _ _ rfl rfl rfl]
  exact Steps.refl _
/-- what holds at the law's entry: the machine, the code, the tables' words (any of lw_tbl by 'hts w (by decide +kernel)'), the script of L ints xs at the cell b, what the Statement gives of the start (any of its parts by flat_of_before) -/
def lw_At (p : Program) (s : State) (m : MethodId) (meth : Method) (c : Code) (b L : Nat) (xs : Nat → Int32) : Prop :=
  p.tables.exec = Jvm.exec ∧ c.code = code ∧ meth.sig.returnType = ret ∧ c.maxLocals = 8 ∧ s.vm.findClass R_law = some m.cls ∧ (∀ w ∈ lw_tbl, w.before #[Value.ref b] s = true) ∧ va_X b L xs s s.heap ∧ b < s.heap.size ∧ meth.locks = false ∧ (Jvm.Cond.and given_1 narrow_1).before #[Value.ref b] s = true
theorem nw_of {w : Cond} {A : Array Value} {U : State} (hn : nestB w = true) (h : w.before A U = true) : va_Nw w U := by
  cases w with
  | arrayOver t => exact h
  | _ => first | exact va_Nw.of rfl h | exact absurd hn (by simp [nestB])
theorem ar_of {ty : FieldType} {A : Array Value} {s : State} (hne : ∀ C : String, ty ≠ .object C) (h : (Cond.arrayClass ty).before A s = true) : ∃ cA : ClassId, ArrOfT s cA ty ∧ va_RA s cA ty := by
  obtain ⟨cA, kA, comp, h1, h2, h3⟩ := Cond.arrayClass_spec h
  refine ⟨cA, fun n z => ⟨fun k h => (by cases h), kA, h2, comp, h3⟩, ?_⟩
  cases ty with
  | object C => exact absurd rfl (hne C)
  | _ => exact h1
theorem ao_of {C : String} {A : Array Value} {s : State} (h : (Cond.arrayOver (.object C)).before A s = true) : ∃ cA : ClassId, ArrOfT s cA (.object C) ∧ va_RA s cA (.object C) := by
  obtain ⟨comp, cA, kA, h1, h2, h3, h4, h5⟩ := Cond.arrayOver_spec h
  exact ⟨cA, fun n z => ⟨fun k h => (by cases h), kA, h3, comp, h4⟩, kA, comp, h3, h4, h1, h5⟩
theorem st_of {A : Array Value} {s : State} {cur k : Nat} {tx : String} (hc : s.vm.findClass "LiveQueries" = some cur) (h : (Cond.stringRef "LiveQueries" k tx).before A s = true) : ∃ sa : Nat, vk_R "LiveQueries" k tx sa s := by
  obtain ⟨-, -, -, a, -, -, -, -, -, he⟩ := Cond.stringRef_spec hc h
  exact ⟨a, vk_R.of h he⟩
theorem objOk_0 : objOk zS0 := ⟨fun j _ => Or.inr ⟨0, by decide, rfl⟩, fun j _ => ⟨0, by decide, rfl⟩⟩
abbrev lw_A (s : State) : Nat → Prop := fun q => s.heap.size ≤ q
/-- the start: classes, arrays, texts -/
theorem lw_facts {p : Program} {s : State} {m : MethodId} {meth : Method} {c : Code} {b L : Nat} {xs : Nat → Int32} (C0 : lw_At p s m meth c b L xs) : (∃ E : zE, va_K E.1 vwCl (zty E.2) s) ∧ nwOk s ∧ xOk (lw_A s) s := by
  obtain ⟨hx, hb, hr, hml, hown, hts, hX, hbl, hlocks, hgv⟩ := C0
  have htb : ∀ w ∈ lw_tb, w.before #[Value.ref b] s = true := fun w hw => hts w (List.mem_filter.mp hw).1
  have hA : ∀ a : Nat, a < s.heap.size → ¬ lw_A s a := fun a h => Nat.not_le.mpr h
  have hs := flat_of_before _ hgv
  obtain ⟨c0, i0, k0⟩ := u_known (C := RX0) (T := TX0) (N := 5) (n := 5) htb iX0 (hts (Cond.instantiable "LiveQueries$Groups" 5) (List.mem_of_getElem? (i := 240) (by decide +kernel)))
  obtain ⟨c1, i1, k1⟩ := u_known (C := RX1) (T := TX1) (N := 14) (n := 14) htb iX1 (hts (Cond.instantiable "LiveQueries$Kept" 14) (List.mem_of_getElem? (i := 181) (by decide +kernel)))
  obtain ⟨c2, i2, k2⟩ := u_known (C := RX2) (T := TX2) (N := 10) (n := 10) htb iX2 (hts (Cond.instantiable "LiveQueries$Plan" 10) (List.mem_of_getElem? (i := 187) (by decide +kernel)))
  obtain ⟨c3, i3, k3⟩ := u_known (C := RX3) (T := TX3) (N := 3) (n := 3) htb iX3 (hts (Cond.instantiable "LiveQueries$Reader" 3) (List.mem_of_getElem? (i := 142) (by decide +kernel)))
  obtain ⟨c4, i4, k4⟩ := u_known (C := RX4) (T := TX4) (N := 7) (n := 7) htb iX4 (hts (Cond.instantiable "LiveQueries$Store" 7) (List.mem_of_getElem? (i := 95) (by decide +kernel)))
  obtain ⟨c5, i5, k5⟩ := u_known (C := RX5) (T := TX5) (N := 2) (n := 2) htb iX5 (hts (Cond.instantiable "LiveQueries$Tape" 2) (List.mem_of_getElem? (i := 126) (by decide +kernel)))
  obtain ⟨c6, i6, k6⟩ := u_known (C := RX6) (T := TX6) (N := 5) (n := 5) htb iX6 (hts (Cond.instantiable "LiveQueries$Worker" 5) (List.mem_of_getElem? (i := 160) (by decide +kernel)))
  obtain ⟨c7, i7, k7⟩ := u_known (C := RX7) (T := TX7) (N := 5) (n := 5) htb iX7 (hts (Cond.instantiable "LiveQueries" 5) (List.mem_of_getElem? (i := 87) (by decide +kernel)))
  obtain ⟨c8, i8, k8⟩ := u_known (C := RX8) (T := TX8) (N := 38) (n := 38) htb iX8 (hts (Cond.instantiable "LiveQueriesModel" 38) (List.mem_of_getElem? (i := 853) (by decide +kernel)))
  obtain ⟨a0, e0⟩ := ar_of (ty := .int) (fun C h => by cases h) (hts (Cond.arrayClass .int) (List.mem_of_getElem? (i := 123) (by decide +kernel)))
  obtain ⟨a1, e1⟩ := ar_of (ty := .long) (fun C h => by cases h) (hts (Cond.arrayClass .long) (List.mem_of_getElem? (i := 124) (by decide +kernel)))
  obtain ⟨a2, e2⟩ := ar_of (ty := .boolean) (fun C h => by cases h) (hts (Cond.arrayClass .boolean) (List.mem_of_getElem? (i := 122) (by decide +kernel)))
  obtain ⟨a3, e3⟩ := ar_of (ty := .char) (fun C h => by cases h) (hts (Cond.arrayClass .char) (List.mem_of_getElem? (i := 140) (by decide +kernel)))
  obtain ⟨a4, e4⟩ := ao_of (C := "LiveQueries$Kept") (hts (Cond.arrayOver (.object "LiveQueries$Kept")) (List.mem_of_getElem? (i := 158) (by decide +kernel)))
  refine ⟨⟨((fun k => if k = 0 then c0 else if k = 1 then c1 else if k = 2 then c2 else if k = 3 then c3 else if k = 4 then c4 else if k = 5 then c5 else if k = 6 then c6 else if k = 7 then c7 else c8, fun k => if k = 0 then i0 else if k = 1 then i1 else if k = 2 then i2 else if k = 3 then i3 else if k = 4 then i4 else if k = 5 then i5 else if k = 6 then i6 else if k = 7 then i7 else i8), fun k => if k = 0 then a0 else if k = 1 then a1 else if k = 2 then a2 else if k = 3 then a3 else a4), ?_, ?_⟩, fun w hw hn => nw_of hn (hts w hw), ?_, ?_, ?_, fun w hw hn => va_Nw.of (xB.tab hn) (hts w hw)⟩
  · intro k q hq
    match k, hq with
    | 0, hq => cases hq; exact k0
    | 1, hq => cases hq; exact k1
    | 2, hq => cases hq; exact k2
    | 3, hq => cases hq; exact k3
    | 4, hq => cases hq; exact k4
    | 5, hq => cases hq; exact k5
    | 6, hq => cases hq; exact k6
    | 7, hq => cases hq; exact k7
    | 8, hq => cases hq; exact k8
    | k + 9, hq => simp [vwCl] at hq
  · intro k q hq
    match k, hq with
    | 0, hq => cases hq; exact e0
    | 1, hq => cases hq; exact e1
    | 2, hq => cases hq; exact e2
    | 3, hq => cases hq; exact e3
    | 4, hq => cases hq; exact e4
    | k + 5, hq => simp [zty] at hq
  · exact vx_Zqof (hts (Cond.laysStatic "java/lang/Throwable" "UNASSIGNED_STACK" "[Ljava/lang/StackTraceElement;") (List.mem_of_getElem? (i := 643) (by decide +kernel))) (hts (Cond.initialized "java/lang/Throwable") (List.mem_of_getElem? (i := 81) (by decide +kernel))) (hs _ (by decide +kernel)) hA
  · exact vx_Zqof (hts (Cond.laysStatic "java/lang/Throwable" "SUPPRESSED_SENTINEL" "Ljava/util/List;") (List.mem_of_getElem? (i := 645) (by decide +kernel))) (hts (Cond.initialized "java/lang/Throwable") (List.mem_of_getElem? (i := 81) (by decide +kernel))) (hs _ (by decide +kernel)) hA
  · obtain ⟨cur, -, hLQ, -⟩ := Cond.instantiable_spec (hts (Cond.instantiable "LiveQueries" 5) (List.mem_of_getElem? (i := 87) (by decide +kernel)))
    intro q hq
    simp only [xStr, List.mem_cons, List.mem_nil_iff, or_false] at hq
    rcases hq with rfl | rfl | rfl | rfl | rfl | rfl
    · exact st_of hLQ (hts (Cond.stringRef "LiveQueries" 84 "there are six queries") (List.mem_of_getElem? (i := 656) (by decide +kernel)))
    · exact st_of hLQ (hts (Cond.stringRef "LiveQueries" 128 "no such row") (List.mem_of_getElem? (i := 797) (by decide +kernel)))
    · exact st_of hLQ (hts (Cond.stringRef "LiveQueries" 138 "no such group") (List.mem_of_getElem? (i := 816) (by decide +kernel)))
    · exact st_of hLQ (hts (Cond.stringRef "LiveQueries" 152 "no such thing to tell of a group") (List.mem_of_getElem? (i := 833) (by decide +kernel)))
    · exact st_of hLQ (hts (Cond.stringRef "LiveQueries" 167 "no such object") (List.mem_of_getElem? (i := 841) (by decide +kernel)))
    · exact st_of hLQ (hts (Cond.stringRef "LiveQueries" 189 "no such thing to tell of an object") (List.mem_of_getElem? (i := 851) (by decide +kernel)))
set_option maxRecDepth 100000 in
/-- YOUR PART: from the entry, for every script of at most 2560 ints, the law comes to its end with true -/
theorem whole_start {p : Program} {e : Env} {s : State} {m : MethodId} {below : List Frame} {meth : Method} {c : Code} (l : Launch) (hl : l.stackTraces = false) {b L : Nat} {xs : Nat → Int32} (hL : L ≤ 2560) (C0 : lw_At p s m meth c b L xs) : W p l e room_1 s m #[Value.ref b] below meth c s.heap [] 0 0 (lw_Z below #[Value.ref b] s) (entryFrame m ([Value.ref b] : List Value).toArray 8) := by
  obtain ⟨⟨E, hK⟩, hnw, hxo⟩ := lw_facts C0
  obtain ⟨hx, hb, hr, hml, hown, hts, hX, hbl, hlocks, hgv⟩ := id C0
  have htb : ∀ w ∈ lw_tb, w.before #[Value.ref b] s = true := fun w hw => hts w (List.mem_filter.mp hw).1
  have hlv := lv_entry ([.ref b]) (n := 8) (Nat.le_of_ble_eq_true rfl)
  have hP : va_P E.1 vwCl [] s.heap := fun k q h => by simp at h
  have hD : va_D (lw_A s) [] := ⟨fun i j p q h => by simp at h, fun k q h => by simp at h⟩
  have hS : va_S (lw_A s) s.heap s.heap [] := va_S.rf
  rw [lg_entry_eq]
  generalize (lg_sl ([.ref b]) ++ List.replicate (8 - (lg_sl ([.ref b])).length) Slot.unset).toArray = ls at hlv ⊢
  have hlv : lv_has ls 8 [(0, .ref b)] := hlv
  have go : ∀ X : zT, X = (p, l, e, room_1, s, m, #[Value.ref b], below, meth, c, E, lw_A s, 8, lw_Z below #[Value.ref b] s) → Z X 0 0 [] [(0, .ref b)] 0 [] := by
    intro X hXe
    have F : zF X l room_1 E cL_law 8 "LiveQueriesLaw" := by rw [hXe]; exact ⟨rfl, rfl, rfl, rfl, hx, hb, hml, hown, htb, hK, fun q h => h, hlocks, hnw⟩
    have hZ : zX X := by rw [hXe]; exact ⟨hl, hxo⟩
    have hsc : scr X b L xs := by rw [hXe]; exact ⟨hX, hbl, Nat.not_le.mpr hbl⟩
    have KE : ∀ (k n : Nat) (ws : va_W) (lv : List (Nat × Value)), k ≤ 601024 → n ≤ 7293034 → Z X k n ws lv 879 [.int 1] := by
      rw [hXe]
      intro k n ws lv hk hn H locs ls hP hD hS hl9
      refine va_forget (fun q hq => hS.2.2 q hq) ?_
      exact W.widen (k := 601024) (n := 7293034) hk hn (lw_ret hx hb hr hlocks dL_law_879)
    clear hXe
    refine z_new (pc := 0) (ci := 7) (fs := [.null, .null, .null, .null, .int 0]) F iX7 tyX7 tyX7_ok nwL_0 rfl (fun j hj => by rcases (show j = 0 ∨ j = 1 ∨ j = 2 ∨ j = 3 ∨ j = 4 by omega) with rfl | rfl | rfl | rfl | rfl <;> rfl) (Nat.le_of_ble_eq_true rfl) (Nat.le_of_ble_eq_true rfl) dL_law_0 (fun q1 => ?_)
    refine z_dup (pc := 3) F dL_law_3 rfl ?_
    refine z_callIF (pc := 4) (wc := [(q1, .inr (7, [.null, .null, .null, .null, .int 0]))]) (wr := []) (rest := [.ref q1]) F (c_X7_init l E q1) 0 wiL_4 rfl (by decide +kernel) rfl ⟨by decide, by decide⟩ ⟨Nat.le_of_ble_eq_true rfl, Nat.le_of_ble_eq_true rfl⟩ rfl (Nat.le_of_ble_eq_true rfl) dL_law_4 (fun v_ w1_ hp => ?_)
    obtain ⟨r, rs, rt, rr, rq, rw, rk, rp, rg, rfl, rfl, rfl⟩ := hp
    refine z_perm (ws' := cW E (r, rs, rt, rr, rq, rw, rk, rp, rg) (zS0, zS0, zS0, zS0, zS0, zS0, fun _ => zS0, fun _ => zS0, fun _ => pI0, .null, 0)) (List.Perm.of_eq (List.append_nil _)) ?_
    have hrel : RELx (zS0, zS0, zS0, zS0, zS0, zS0, fun _ => zS0, fun _ => zS0, fun _ => pI0, .null, 0) zS0 := ⟨0, fun _ _ => none, fun _ => [], fun _ => 0, fun _ _ => 0, fun _ => ([], [], [], []), REL_0 _ _ _ _ _ rfl rfl rfl rfl objOk_0 (fun o _ => ⟨rfl, fun _ _ => rfl, fun _ _ => rfl⟩), Nat.zero_le _⟩
    generalize hR9 : ((r, rs, rt, rr, rq, rw, rk, rp, rg) : cR) = R
    have hr0 : r 0 = R.1 0 := by rw [← hR9]
    rw [hr0]
    generalize ((zS0, zS0, zS0, zS0, zS0, zS0, fun _ => zS0, fun _ => zS0, fun _ => pI0, .null, 0) : cS) = c0 at hrel ⊢
    refine z_astore_n (pc := 7) (lv' := [(0, .ref b), (1, .ref (R.1 0))]) F dL_law_7 rfl (by decide) [1, 0] rfl ?_
    refine z_new (pc := 8) (ci := 8) (fs := [.int 0, .int 0, .null, .int 0, .null, .null, .null, .null, .null, .null, .int 0, .null, .null, .null, .null, .null, .int 0, .null, .null, .int 0, .null, .int 0, .null, .null, .int 0, .null, .null, .null, .null, .int 0, .null, .null, .null, .null, .null, .int 0, .int 0, .int 0]) F iX8 tyX8 tyX8_ok nwL_8 rfl (fun j hj => by rcases (show j = 0 ∨ j = 1 ∨ j = 2 ∨ j = 3 ∨ j = 4 ∨ j = 5 ∨ j = 6 ∨ j = 7 ∨ j = 8 ∨ j = 9 ∨ j = 10 ∨ j = 11 ∨ j = 12 ∨ j = 13 ∨ j = 14 ∨ j = 15 ∨ j = 16 ∨ j = 17 ∨ j = 18 ∨ j = 19 ∨ j = 20 ∨ j = 21 ∨ j = 22 ∨ j = 23 ∨ j = 24 ∨ j = 25 ∨ j = 26 ∨ j = 27 ∨ j = 28 ∨ j = 29 ∨ j = 30 ∨ j = 31 ∨ j = 32 ∨ j = 33 ∨ j = 34 ∨ j = 35 ∨ j = 36 ∨ j = 37 by omega) with rfl | rfl | rfl | rfl | rfl | rfl | rfl | rfl | rfl | rfl | rfl | rfl | rfl | rfl | rfl | rfl | rfl | rfl | rfl | rfl | rfl | rfl | rfl | rfl | rfl | rfl | rfl | rfl | rfl | rfl | rfl | rfl | rfl | rfl | rfl | rfl | rfl | rfl <;> rfl) (Nat.le_of_ble_eq_true rfl) (Nat.le_of_ble_eq_true rfl) dL_law_8 (fun q2 => ?_)
    refine z_dup (pc := 11) F dL_law_11 rfl ?_
    refine z_perm (ws' := [(q2, .inr (8, [.int 0, .int 0, .null, .int 0, .null, .null, .null, .null, .null, .null, .int 0, .null, .null, .null, .null, .null, .int 0, .null, .null, .int 0, .null, .int 0, .null, .null, .int 0, .null, .null, .null, .null, .int 0, .null, .null, .null, .null, .null, .int 0, .int 0, .int 0]))] ++ cW E R c0) List.perm_append_comm ?_
    refine z_widen (k' := 112) (n' := 6420) (Nat.le_of_ble_eq_true rfl) (Nat.le_of_ble_eq_true rfl) ?_
    refine z_callIF (k := 112) (n := 6420) (pc := 12) (wc := [(q2, .inr (8, [.int 0, .int 0, .null, .int 0, .null, .null, .null, .null, .null, .null, .int 0, .null, .null, .null, .null, .null, .int 0, .null, .null, .int 0, .null, .int 0, .null, .null, .int 0, .null, .null, .null, .null, .int 0, .null, .null, .null, .null, .null, .int 0, .int 0, .int 0]))]) (wr := cW E R c0) (rest := [.ref q2]) F (c_X8_init l E q2) 0 wiL_12 rfl (by decide +kernel) rfl ⟨by decide, by decide⟩ ⟨by decide, by decide⟩ rfl (Nat.le_of_ble_eq_true rfl) dL_law_12 (fun v_ w1_ hp => ?_)
    obtain ⟨rm, rfl, rfl, rfl⟩ := hp
    refine z_astore_n (pc := 15) (lv' := [(0, .ref b), (1, .ref (R.1 0)), (2, .ref (rm 0))]) F dL_law_15 rfl (by decide) [1, 2, 0] rfl ?_
    refine z_iconst (pc := 16) (v := 1) F dL_law_16 (by decide) ?_
    refine z_newa (pc := 17) (atype := .long) (ty := .long) F 1 rfl (cT := E.2 1) rfl ty_long (N := 1) (a0 := (1, .inr (.inl (fun _ => 0)))) (fun _ => rfl) (by decide) (by decide) (by decide) (Nat.le_of_ble_eq_true rfl) (Nat.le_of_ble_eq_true rfl) dL_law_17 (fun q3 => ?_)
    refine z_astore_n (pc := 19) (lv' := [(0, .ref b), (1, .ref (R.1 0)), (2, .ref (rm 0)), (3, .ref q3)]) F dL_law_19 rfl (by decide) [1, 2, 3, 0] rfl ?_
    refine z_iconst (pc := 20) (v := 0) F dL_law_20 (by decide) ?_
    refine z_istore (pc := 21) (lv' := lwL b R rm (fun _ => q3) 0) F dL_law_21 (by decide) [1, 2, 3, 4, 0] rfl ?_
    refine z_perm (ws' := lwW E R (fun _ => q3) rm c0 zS0 zS0) ?_ ?_
    · show ((mw E rm zS0 ++ cW E R c0) ++ ow E (fun _ => q3) zS0).Perm (cW E R c0 ++ (ow E (fun _ => q3) zS0 ++ mw E rm zS0))
      rw [List.append_assoc, ← List.append_assoc (cW E R c0)]
      exact List.perm_append_comm
    exact lw_loop hl F hZ hsc hL KE 513 0 _ _ c0 zS0 zS0 (by omega) (Nat.le_of_ble_eq_true rfl) (Nat.le_of_ble_eq_true rfl) (by omega) hrel
  exact go _ rfl s.heap [] ls hP hD hS hlv

theorem x_X7_init : Cond.methodLink "LiveQueries" 1 Lib.objectInit ∈ lw_tb := tb 91 (by decide +kernel) (by decide +kernel)
theorem nwX7_init_5 : Cond.classLink "LiveQueries" 7 "LiveQueries$Store" ∈ lw_tb ∧ Cond.instantiable "LiveQueries$Store" 7 ∈ lw_tb ∧ Cond.initialized "LiveQueries$Store" ∈ lw_tb := ⟨tb 94 (by decide +kernel) (by decide +kernel), tb 95 (by decide +kernel) (by decide +kernel), tb 71 (by decide +kernel) (by decide +kernel)⟩
set_option maxRecDepth 100000 in
theorem wiX7_init_9 : Cond.code yX4_init cX4_init 1 none ∈ lw_tb ∧ (Cond.methodLinkNest "LiveQueries" 9 yX4_init "LiveQueries" ∈ lw_tbl ∧ nestB (.methodLinkNest "LiveQueries" 9 yX4_init "LiveQueries") = true) ∧ Cond.instanceMethod yX4_init ∈ lw_tb ∧ Cond.initialized yX4_init.cls ∈ lw_tb := ⟨tb 98 rfl rfl, nw_96, tb 97 (by decide +kernel) (by decide +kernel), tb 71 (by decide +kernel) (by decide +kernel)⟩
theorem nwX7_init_16 : Cond.classLink "LiveQueries" 16 "LiveQueries$Tape" ∈ lw_tb ∧ Cond.instantiable "LiveQueries$Tape" 2 ∈ lw_tb ∧ Cond.initialized "LiveQueries$Tape" ∈ lw_tb := ⟨tb 125 (by decide +kernel) (by decide +kernel), tb 126 (by decide +kernel) (by decide +kernel), tb 72 (by decide +kernel) (by decide +kernel)⟩
set_option maxRecDepth 100000 in
theorem wiX7_init_20 : Cond.code yX5_init cX5_init 1 none ∈ lw_tb ∧ (Cond.methodLinkNest "LiveQueries" 18 yX5_init "LiveQueries" ∈ lw_tbl ∧ nestB (.methodLinkNest "LiveQueries" 18 yX5_init "LiveQueries") = true) ∧ Cond.instanceMethod yX5_init ∈ lw_tb ∧ Cond.initialized yX5_init.cls ∈ lw_tb := ⟨tb 129 rfl rfl, nw_127, tb 128 (by decide +kernel) (by decide +kernel), tb 72 (by decide +kernel) (by decide +kernel)⟩
theorem nwX7_init_27 : Cond.classLink "LiveQueries" 23 "LiveQueries$Reader" ∈ lw_tb ∧ Cond.instantiable "LiveQueries$Reader" 3 ∈ lw_tb ∧ Cond.initialized "LiveQueries$Reader" ∈ lw_tb := ⟨tb 141 (by decide +kernel) (by decide +kernel), tb 142 (by decide +kernel) (by decide +kernel), tb 73 (by decide +kernel) (by decide +kernel)⟩
set_option maxRecDepth 100000 in
theorem wiX7_init_35 : Cond.code yX3_init cX3_init 2 none ∈ lw_tb ∧ Cond.methodLink "LiveQueries" 25 yX3_init ∈ lw_tb ∧ Cond.instanceMethod yX3_init ∈ lw_tb ∧ Cond.initialized yX3_init.cls ∈ lw_tb := ⟨tb 145 rfl rfl, tb 143 (by decide +kernel) (by decide +kernel), tb 144 (by decide +kernel) (by decide +kernel), tb 73 (by decide +kernel) (by decide +kernel)⟩
theorem nq_X7 : Cond.classLink "LiveQueries" 32 "LiveQueries$Kept" ∈ lw_tb := tb 157 (by decide +kernel) (by decide +kernel)
theorem ao_X7 : Cond.arrayOver (.object "LiveQueries$Kept") ∈ lw_tbl ∧ nestB (.arrayOver (.object "LiveQueries$Kept")) = true := nb 158 (by decide +kernel) rfl
theorem nwX7_init_50 : Cond.classLink "LiveQueries" 38 "LiveQueries$Worker" ∈ lw_tb ∧ Cond.instantiable "LiveQueries$Worker" 5 ∈ lw_tb ∧ Cond.initialized "LiveQueries$Worker" ∈ lw_tb := ⟨tb 159 (by decide +kernel) (by decide +kernel), tb 160 (by decide +kernel) (by decide +kernel), tb 74 (by decide +kernel) (by decide +kernel)⟩
set_option maxRecDepth 100000 in
theorem wiX7_init_58 : Cond.code yX6_init cX6_init 2 none ∈ lw_tb ∧ Cond.methodLink "LiveQueries" 40 yX6_init ∈ lw_tb ∧ Cond.instanceMethod yX6_init ∈ lw_tb ∧ Cond.initialized yX6_init.cls ∈ lw_tb := ⟨tb 163 rfl rfl, tb 161 (by decide +kernel) (by decide +kernel), tb 162 (by decide +kernel) (by decide +kernel), tb 74 (by decide +kernel) (by decide +kernel)⟩
theorem nw_X7_75 : Cond.classLink "LiveQueries" 32 "LiveQueries$Kept" ∈ lw_tb ∧ Cond.instantiable "LiveQueries$Kept" 14 ∈ lw_tb ∧ Cond.initialized "LiveQueries$Kept" ∈ lw_tb := ⟨nq_X7, tb 181 (by decide +kernel) (by decide +kernel), tb 75 (by decide +kernel) (by decide +kernel)⟩
set_option maxRecDepth 100000 in
theorem wi_X7_84 : Cond.code yX1_init cX1_init 3 none ∈ lw_tb ∧ Cond.methodLink "LiveQueries" 43 yX1_init ∈ lw_tb ∧ Cond.instanceMethod yX1_init ∈ lw_tb ∧ Cond.initialized yX1_init.cls ∈ lw_tb := ⟨tb 184 rfl rfl, tb 182 (by decide +kernel) (by decide +kernel), tb 183 (by decide +kernel) (by decide +kernel), tb 75 (by decide +kernel) (by decide +kernel)⟩
set_option maxHeartbeats 4000000 in
set_option maxRecDepth 100000 in
theorem c_X7_init (l : Launch) (E : zE) (h0 : Nat) : Ct l yX7_init cX7_init 3 none ({ frames := 3, cells := 110, slots := 6377, locals := 160 } : Room) E ([(h0, .inr (7, [.null, .null, .null, .null, .int 0]))]) [.ref h0] (fun v_ w_ => ∃ r : Nat → Nat, ∃ rs : Nat → Nat, ∃ rt : Nat → Nat, ∃ rr : Nat → Nat, ∃ rq : Nat → Nat, ∃ rw : Nat → Nat, ∃ rk : Nat → Nat → Nat, ∃ rp : Nat → Nat → Nat, ∃ rg : Nat → Nat → Nat, r 0 = h0 ∧ v_ = none ∧ w_ = lqw E r (rs 0) (rt 0) (rr 0) (rq 0) zS0 ++ qaw E rq (fun q => some (rk q 0)) zS0 ++ sw E rs zS0 ++ tpw E rt zS0 ++ rdw E rr (rt 0) .null zS0 ++ wkw E rw (rs 0) zS0 ++ k6 E rk rp rg rs rw (fun _ => zS0) (fun _ => zS0) (fun _ => pI0)) := by
  refine Ct.ofI (by decide) rfl (Nat.le_of_ble_eq_true rfl) (lv := [(0, .ref h0)]) rfl ?_
  intro X F hR hI
  have F : zF X l ({ frames := 3, cells := 110, slots := 6377, locals := 160 } : Room) E cX7_init 3 "LiveQueries" := F
  refine z_aload_n (pc := 0) F dX7_init_0 rfl 0 rfl ?_
  refine z_objInit (pc := 1) F ⟨x_X7_init, tw_oi, tw_oc⟩ dX7_init_1 (by decide) (by decide) (Nat.le_of_ble_eq_true rfl) ?_
  refine z_aload_n (pc := 4) F dX7_init_4 rfl 0 rfl ?_
  refine z_new (pc := 5) (ci := 4) (fs := [.null, .null, .null, .null, .null, .null, .int 0]) F iX4 tyX4 tyX4_ok nwX7_init_5 rfl (fun j hj => by rcases (show j = 0 ∨ j = 1 ∨ j = 2 ∨ j = 3 ∨ j = 4 ∨ j = 5 ∨ j = 6 by omega) with rfl | rfl | rfl | rfl | rfl | rfl | rfl <;> rfl) (Nat.le_of_ble_eq_true rfl) (Nat.le_of_ble_eq_true rfl) dX7_init_5 (fun q1 => ?_)
  show Z X 1 7 ([(h0, .inr (7, [.null, .null, .null, .null, .int 0]))] ++ [(q1, .inr (4, [.null, .null, .null, .null, .null, .null, .int 0]))]) [(0, .ref h0)] 8 [.ref q1, .ref h0]
  refine z_dup (pc := 8) F dX7_init_8 rfl ?_
  refine z_callIN (pc := 9) (wr := [(h0, .inr (7, [.null, .null, .null, .null, .int 0]))]) (rest := [.ref q1, .ref h0]) F (c_X4_init l E q1) 0 [1] [0] rfl rfl ⟨by decide, by decide, by decide⟩ wiX7_init_9 rfl (by decide +kernel) rfl ⟨Nat.le_of_ble_eq_true rfl, Nat.le_of_ble_eq_true rfl⟩ ⟨Nat.le_of_ble_eq_true rfl, Nat.le_of_ble_eq_true rfl⟩ rfl (Nat.le_of_ble_eq_true rfl) dX7_init_9 (fun v_ w1_ hp => ?_)
  obtain ⟨r1, hr1, rfl, rfl⟩ := hp
  subst hr1
  show Z X 7 907 ([(h0, .inr (7, [.null, .null, .null, .null, .int 0]))] ++ sw E r1 zS0) [(0, .ref h0)] 12 [.ref (r1 0), .ref h0]
  refine z_putF (pc := 12) (ws' := [(h0, .inr (7, [.ref (r1 0), .null, .null, .null, .int 0]))] ++ sw E r1 zS0) F hI iX7 tyX7 tyX7_ok nmX7 0 rfl rfl 0 (by decide) tw_306 rfl rfl rfl rfl (Nat.le_of_ble_eq_true rfl) dX7_init_12 rfl ?_
  refine z_aload_n (pc := 15) F dX7_init_15 rfl 0 rfl ?_
  refine z_new (pc := 16) (ci := 5) (fs := [.null, .int 0]) F iX5 tyX5 tyX5_ok nwX7_init_16 rfl (fun j hj => by rcases (show j = 0 ∨ j = 1 by omega) with rfl | rfl <;> rfl) (Nat.le_of_ble_eq_true rfl) (Nat.le_of_ble_eq_true rfl) dX7_init_16 (fun q2 => ?_)
  show Z X 8 909 ([(h0, .inr (7, [.ref (r1 0), .null, .null, .null, .int 0]))] ++ sw E r1 zS0 ++ [(q2, .inr (5, [.null, .int 0]))]) [(0, .ref h0)] 19 [.ref q2, .ref h0]
  refine z_dup (pc := 19) F dX7_init_19 rfl ?_
  refine z_callIN (pc := 20) (wr := [(h0, .inr (7, [.ref (r1 0), .null, .null, .null, .int 0]))] ++ sw E r1 zS0) (rest := [.ref q2, .ref h0]) F (c_X5_init l E q2) 0 [8] [0, 1, 2, 3, 4, 5, 6, 7] rfl rfl ⟨by decide, by decide, by decide⟩ wiX7_init_20 rfl (by decide +kernel) rfl ⟨Nat.le_of_ble_eq_true rfl, Nat.le_of_ble_eq_true rfl⟩ ⟨Nat.le_of_ble_eq_true rfl, Nat.le_of_ble_eq_true rfl⟩ rfl (Nat.le_of_ble_eq_true rfl) dX7_init_20 (fun v_ w1_ hp => ?_)
  obtain ⟨r2, hr2, rfl, rfl⟩ := hp
  subst hr2
  show Z X 9 989 ([(h0, .inr (7, [.ref (r1 0), .null, .null, .null, .int 0]))] ++ sw E r1 zS0 ++ tpw E r2 zS0) [(0, .ref h0)] 23 [.ref (r2 0), .ref h0]
  refine z_putF (pc := 23) (ws' := [(h0, .inr (7, [.ref (r1 0), .ref (r2 0), .null, .null, .int 0]))] ++ sw E r1 zS0 ++ tpw E r2 zS0) F hI iX7 tyX7 tyX7_ok nmX7 0 rfl rfl 1 (by decide) tw_307 rfl rfl rfl rfl (Nat.le_of_ble_eq_true rfl) dX7_init_23 rfl ?_
  refine z_aload_n (pc := 26) F dX7_init_26 rfl 0 rfl ?_
  refine z_new (pc := 27) (ci := 3) (fs := [.null, .null, .int 0]) F iX3 tyX3 tyX3_ok nwX7_init_27 rfl (fun j hj => by rcases (show j = 0 ∨ j = 1 ∨ j = 2 by omega) with rfl | rfl | rfl <;> rfl) (Nat.le_of_ble_eq_true rfl) (Nat.le_of_ble_eq_true rfl) dX7_init_27 (fun q3 => ?_)
  show Z X 10 992 ([(h0, .inr (7, [.ref (r1 0), .ref (r2 0), .null, .null, .int 0]))] ++ sw E r1 zS0 ++ tpw E r2 zS0 ++ [(q3, .inr (3, [.null, .null, .int 0]))]) [(0, .ref h0)] 30 [.ref q3, .ref h0]
  refine z_dup (pc := 30) F dX7_init_30 rfl ?_
  refine z_aload_n (pc := 31) F dX7_init_31 rfl 0 rfl ?_
  refine z_get (pc := 32) (v := .ref (r2 0)) F iX7 0 rfl rfl 1 (by decide) tw_307 rfl dX7_init_32 ?_
  refine z_callI (pc := 35) (wr := [(h0, .inr (7, [.ref (r1 0), .ref (r2 0), .null, .null, .int 0]))] ++ sw E r1 zS0 ++ tpw E r2 zS0) (rest := [.ref q3, .ref h0]) F (c_X3_init l E q3 (r2 0)) 1 [10] [0, 1, 2, 3, 4, 5, 6, 7, 8, 9] rfl rfl ⟨by decide, by decide, by decide⟩ wiX7_init_35 rfl (by decide +kernel) rfl ⟨Nat.le_of_ble_eq_true rfl, Nat.le_of_ble_eq_true rfl⟩ ⟨Nat.le_of_ble_eq_true rfl, Nat.le_of_ble_eq_true rfl⟩ rfl (Nat.le_of_ble_eq_true rfl) dX7_init_35 (fun v_ w1_ hp => ?_)
  obtain ⟨r3, hr3, rfl, rfl⟩ := hp
  subst hr3
  show Z X 10 992 ([(h0, .inr (7, [.ref (r1 0), .ref (r2 0), .null, .null, .int 0]))] ++ sw E r1 zS0 ++ tpw E r2 zS0 ++ rdw E r3 (r2 0) .null zS0) [(0, .ref h0)] 38 [.ref (r3 0), .ref h0]
  refine z_putF (pc := 38) (ws' := [(h0, .inr (7, [.ref (r1 0), .ref (r2 0), .ref (r3 0), .null, .int 0]))] ++ sw E r1 zS0 ++ tpw E r2 zS0 ++ rdw E r3 (r2 0) .null zS0) F hI iX7 tyX7 tyX7_ok nmX7 0 rfl rfl 2 (by decide) tw_308 rfl rfl rfl rfl (Nat.le_of_ble_eq_true rfl) dX7_init_38 rfl ?_
  refine z_aload_n (pc := 41) F dX7_init_41 rfl 0 rfl ?_
  refine z_bipush (pc := 42) (v := 6) F dX7_init_42 (by decide) ?_
  refine z_newq (pc := 44) F nq_X7 ao_X7 4 (cT := E.2 4) rfl (N := 6) (by decide) (by decide) (by decide) (Nat.le_of_ble_eq_true rfl) (Nat.le_of_ble_eq_true rfl) dX7_init_44 (fun qa => ?_)
  show Z X 11 998 ([(h0, .inr (7, [.ref (r1 0), .ref (r2 0), .ref (r3 0), .null, .int 0]))] ++ sw E r1 zS0 ++ tpw E r2 zS0 ++ rdw E r3 (r2 0) .null zS0 ++ [(qa, .inl (E.2 4, 6, .inr (.inr (.inr (.inr (fun _ => none))))))]) [(0, .ref h0)] 47 [.ref qa, .ref h0]
  refine z_putF (pc := 47) (ws' := [(h0, .inr (7, [.ref (r1 0), .ref (r2 0), .ref (r3 0), .ref qa, .int 0]))] ++ sw E r1 zS0 ++ tpw E r2 zS0 ++ rdw E r3 (r2 0) .null zS0 ++ [(qa, .inl (E.2 4, 6, .inr (.inr (.inr (.inr (fun _ => none))))))]) F hI iX7 tyX7 tyX7_ok nmX7 0 rfl rfl 3 (by decide) tw_309 rfl rfl rfl rfl (Nat.le_of_ble_eq_true rfl) dX7_init_47 rfl ?_
  refine z_new (pc := 50) (ci := 6) (fs := [.null, .null, .null, .long 0, .int 0]) F iX6 tyX6 tyX6_ok nwX7_init_50 rfl (fun j hj => by rcases (show j = 0 ∨ j = 1 ∨ j = 2 ∨ j = 3 ∨ j = 4 by omega) with rfl | rfl | rfl | rfl | rfl <;> rfl) (Nat.le_of_ble_eq_true rfl) (Nat.le_of_ble_eq_true rfl) dX7_init_50 (fun q4 => ?_)
  show Z X 12 1003 ([(h0, .inr (7, [.ref (r1 0), .ref (r2 0), .ref (r3 0), .ref qa, .int 0]))] ++ sw E r1 zS0 ++ tpw E r2 zS0 ++ rdw E r3 (r2 0) .null zS0 ++ [(qa, .inl (E.2 4, 6, .inr (.inr (.inr (.inr (fun _ => none))))))] ++ [(q4, .inr (6, [.null, .null, .null, .long 0, .int 0]))]) [(0, .ref h0)] 53 [.ref q4]
  refine z_dup (pc := 53) F dX7_init_53 rfl ?_
  refine z_aload_n (pc := 54) F dX7_init_54 rfl 0 rfl ?_
  refine z_get (pc := 55) (v := .ref (r1 0)) F iX7 0 rfl rfl 0 (by decide) tw_306 rfl dX7_init_55 ?_
  refine z_callI (pc := 58) (wr := [(h0, .inr (7, [.ref (r1 0), .ref (r2 0), .ref (r3 0), .ref qa, .int 0]))] ++ sw E r1 zS0 ++ tpw E r2 zS0 ++ rdw E r3 (r2 0) .null zS0 ++ [(qa, .inl (E.2 4, 6, .inr (.inr (.inr (.inr (fun _ => none))))))]) (rest := [.ref q4]) F (c_X6_init l E q4 (r1 0)) 1 [12] [0, 1, 2, 3, 4, 5, 6, 7, 8, 9, 10, 11] rfl rfl ⟨by decide, by decide, by decide⟩ wiX7_init_58 rfl (by decide +kernel) rfl ⟨Nat.le_of_ble_eq_true rfl, Nat.le_of_ble_eq_true rfl⟩ ⟨Nat.le_of_ble_eq_true rfl, Nat.le_of_ble_eq_true rfl⟩ rfl (Nat.le_of_ble_eq_true rfl) dX7_init_58 (fun v_ w1_ hp => ?_)
  obtain ⟨r4, hr4, rfl, rfl⟩ := hp
  subst hr4
  show Z X 14 1163 ([(h0, .inr (7, [.ref (r1 0), .ref (r2 0), .ref (r3 0), .ref qa, .int 0]))] ++ sw E r1 zS0 ++ tpw E r2 zS0 ++ rdw E r3 (r2 0) .null zS0 ++ [(qa, .inl (E.2 4, 6, .inr (.inr (.inr (.inr (fun _ => none))))))] ++ wkw E r4 (r1 0) zS0) [(0, .ref h0)] 61 [.ref (r4 0)]
  refine z_astore_n (pc := 61) (lv' := [(0, .ref h0), (1, .ref (r4 0))]) F dX7_init_61 rfl (by decide) [1, 0] rfl ?_
  refine z_iconst (pc := 62) (v := 0) F dX7_init_62 (by decide) ?_
  refine z_istore_n (pc := 63) (lv' := [(0, .ref h0), (1, .ref (r4 0)), (2, .int 0)]) F dX7_init_63 rfl (by decide) [1, 2, 0] rfl ?_
  refine z_world (ws' := [(h0, .inr (7, [.ref (r1 0), .ref (r2 0), .ref (r3 0), .ref qa, .int 0]))] ++ sw E r1 zS0 ++ tpw E r2 zS0 ++ rdw E r3 (r2 0) .null zS0 ++ wkw E r4 (r1 0) zS0 ++ [(qa, .inl (E.2 4, 6, .inr (.inr (.inr (.inr (fun _ => none))))))]) [0, 1, 2, 3, 4, 5, 6, 7, 8, 9, 10, 12, 13, 14, 11] (by decide) rfl ?_
  have L64 : ∀ (N i : Nat) (rk rp rg : Nat → Nat → Nat), 6 - i < N → i ≤ 6 → Z X (14 + 16 * i) (1163 + 869 * i) ([(h0, .inr (7, [.ref (r1 0), .ref (r2 0), .ref (r3 0), .ref qa, .int 0]))] ++ sw E r1 zS0 ++ tpw E r2 zS0 ++ rdw E r3 (r2 0) .null zS0 ++ wkw E r4 (r1 0) zS0 ++ [(qa, .inl (E.2 4, 6, .inr (.inr (.inr (.inr (fN rk i))))))] ++ kN E rk rp rg r1 r4 i) [(0, .ref h0), (1, .ref (r4 0)), (2, .int (nI i))] 64 [] := by
    intro N
    induction N with
    | zero => intro i rk rp rg hN; exact absurd hN (Nat.not_lt_zero _)
    | succ N ih =>
      intro i rk rp rg hN hi
      refine z_iload_n (pc := 64) F dX7_init_64 rfl 2 rfl ?_
      refine z_bipush (pc := 65) (v := 6) F dX7_init_65 (by decide) ?_
      refine z_icmp_ge (pc := 67) (tgt := 94) F dX7_init_67 (by decide) (fun c67 => ?_) (fun c67 => ?_)
      · have hi6 : i = 6 := Nat.le_antisymm hi (gI (a := 6) (by decide) (by omega) c67)
        subst hi6
        refine z_qa (f' := fun q => some (rk q 0)) (fun j hj => by unfold fN; rw [if_pos hj]) ?_
        rw [kN_6]
        refine z_aload_n (pc := 94) F dX7_init_94 rfl 0 rfl ?_
        refine z_iconst (pc := 95) (v := 0) F dX7_init_95 (by decide) ?_
        refine z_put (pc := 96) (ws' := [(h0, .inr (7, [.ref (r1 0), .ref (r2 0), .ref (r3 0), .ref qa, .int 0]))] ++ sw E r1 zS0 ++ tpw E r2 zS0 ++ rdw E r3 (r2 0) .null zS0 ++ wkw E r4 (r1 0) zS0 ++ [(qa, .inl (E.2 4, 6, .inr (.inr (.inr (.inr (fun q => some (rk q 0)))))))] ++ k6 E rk rp rg r1 r4 (fun _ => zS0) (fun _ => zS0) (fun _ => pI0)) F iX7 tyX7 tyX7_ok nmX7 0 rfl rfl 4 (by decide) tw_310 rfl rfl rfl (Nat.le_of_ble_eq_true rfl) dX7_init_96 rfl ?_
        refine z_blk [[(h0, .inr (7, [.ref (r1 0), .ref (r2 0), .ref (r3 0), .ref qa, .int 0]))], sw E r1 zS0, tpw E r2 zS0, rdw E r3 (r2 0) .null zS0, wkw E r4 (r1 0) zS0, [(qa, .inl (E.2 4, 6, .inr (.inr (.inr (.inr (fun q => some (rk q 0)))))))], k6 E rk rp rg r1 r4 (fun _ => zS0) (fun _ => zS0) (fun _ => pI0)] [[(h0, .inr (7, [.ref (r1 0), .ref (r2 0), .ref (r3 0), .ref qa, .int 0]))], [(qa, .inl (E.2 4, 6, .inr (.inr (.inr (.inr (fun q => some (rk q 0)))))))], sw E r1 zS0, tpw E r2 zS0, rdw E r3 (r2 0) .null zS0, wkw E r4 (r1 0) zS0, k6 E rk rp rg r1 r4 (fun _ => zS0) (fun _ => zS0) (fun _ => pI0)] [0, 5, 1, 2, 3, 4, 6] 7 rfl (by decide) rfl ?_
        exact z_vret (pc := 99) F hR dX7_init_99 (Nat.le_of_ble_eq_true rfl) (Nat.le_of_ble_eq_true rfl) ⟨fun _ => h0, r1, r2, r3, fun _ => qa, r4, rk, rp, rg, rfl, rfl, rfl⟩
      · have hil := ngI (a := 6) (by decide) (by omega) c67
        refine z_aload_n (pc := 70) F dX7_init_70 rfl 0 rfl ?_
        refine z_get (pc := 71) (v := .ref qa) F iX7 0 rfl rfl 3 (by decide) tw_309 rfl dX7_init_71 ?_
        refine z_iload_n (pc := 74) F dX7_init_74 rfl 2 rfl ?_
        refine z_new (pc := 75) (ci := 1) (fs := [.null, .null, .null, .null, .null, .null, .null, .null, .null, .null, .int 0, .long 0, .long 0, .long 0]) F iX1 tyX1 tyX1_ok nw_X7_75 rfl (fun j hj => by rcases (show j = 0 ∨ j = 1 ∨ j = 2 ∨ j = 3 ∨ j = 4 ∨ j = 5 ∨ j = 6 ∨ j = 7 ∨ j = 8 ∨ j = 9 ∨ j = 10 ∨ j = 11 ∨ j = 12 ∨ j = 13 by omega) with rfl | rfl | rfl | rfl | rfl | rfl | rfl | rfl | rfl | rfl | rfl | rfl | rfl | rfl <;> rfl) (by dsimp only; omega) (by dsimp only; omega) dX7_init_75 (fun qk => ?_)
        refine z_blk [[(h0, .inr (7, [.ref (r1 0), .ref (r2 0), .ref (r3 0), .ref qa, .int 0]))], sw E r1 zS0, tpw E r2 zS0, rdw E r3 (r2 0) .null zS0, wkw E r4 (r1 0) zS0, [(qa, .inl (E.2 4, 6, .inr (.inr (.inr (.inr (fN rk i))))))], kN E rk rp rg r1 r4 i, [(qk, .inr (1, [.null, .null, .null, .null, .null, .null, .null, .null, .null, .null, .int 0, .long 0, .long 0, .long 0]))]] [[(qk, .inr (1, [.null, .null, .null, .null, .null, .null, .null, .null, .null, .null, .int 0, .long 0, .long 0, .long 0]))], [(h0, .inr (7, [.ref (r1 0), .ref (r2 0), .ref (r3 0), .ref qa, .int 0]))], sw E r1 zS0, tpw E r2 zS0, rdw E r3 (r2 0) .null zS0, wkw E r4 (r1 0) zS0, [(qa, .inl (E.2 4, 6, .inr (.inr (.inr (.inr (fN rk i))))))], kN E rk rp rg r1 r4 i] [7, 0, 1, 2, 3, 4, 5, 6] 8 rfl (by decide) rfl ?_
        show Z X (14 + 16 * i + 1) (1163 + 869 * i + 14) ([(qk, .inr (1, [.null, .null, .null, .null, .null, .null, .null, .null, .null, .null, .int 0, .long 0, .long 0, .long 0]))] ++ [(h0, .inr (7, [.ref (r1 0), .ref (r2 0), .ref (r3 0), .ref qa, .int 0]))] ++ sw E r1 zS0 ++ tpw E r2 zS0 ++ rdw E r3 (r2 0) .null zS0 ++ wkw E r4 (r1 0) zS0 ++ [(qa, .inl (E.2 4, 6, .inr (.inr (.inr (.inr (fN rk i))))))] ++ kN E rk rp rg r1 r4 i) [(0, .ref h0), (1, .ref (r4 0)), (2, .int (nI i))] 78 [.ref qk, .int (nI i), .ref qa]
        refine z_dup (pc := 78) F dX7_init_78 rfl ?_
        refine z_aload_n (pc := 79) F dX7_init_79 rfl 0 rfl ?_
        refine z_get (pc := 80) (v := .ref (r1 0)) F iX7 1 rfl rfl 0 (by decide) tw_306 rfl dX7_init_80 ?_
        refine z_aload_n (pc := 83) F dX7_init_83 rfl 1 rfl ?_
        refine z_perm (ws' := [(qk, .inr (1, [.null, .null, .null, .null, .null, .null, .null, .null, .null, .null, .int 0, .long 0, .long 0, .long 0]))] ++ ([(h0, .inr (7, [.ref (r1 0), .ref (r2 0), .ref (r3 0), .ref qa, .int 0]))] ++ sw E r1 zS0 ++ tpw E r2 zS0 ++ rdw E r3 (r2 0) .null zS0 ++ wkw E r4 (r1 0) zS0 ++ [(qa, .inl (E.2 4, 6, .inr (.inr (.inr (.inr (fN rk i))))))] ++ kN E rk rp rg r1 r4 i)) (List.Perm.of_eq (by simp only [List.append_assoc])) ?_
        refine z_callIF (pc := 84) (k := (14 + 16 * i + 1)) (n := (1163 + 869 * i + 14)) (wr := [(h0, .inr (7, [.ref (r1 0), .ref (r2 0), .ref (r3 0), .ref qa, .int 0]))] ++ sw E r1 zS0 ++ tpw E r2 zS0 ++ rdw E r3 (r2 0) .null zS0 ++ wkw E r4 (r1 0) zS0 ++ [(qa, .inl (E.2 4, 6, .inr (.inr (.inr (.inr (fN rk i))))))] ++ kN E rk rp rg r1 r4 i) (rest := [.ref qk, .int (nI i), .ref qa]) F (c_X1_init l E qk (r1 0) (r4 0)) 2 wi_X7_84 rfl (by decide +kernel) rfl ⟨Nat.le_of_ble_eq_true rfl, Nat.le_of_ble_eq_true rfl⟩ (by constructor <;> (dsimp only; omega)) rfl (Nat.le_of_ble_eq_true rfl) dX7_init_84 (fun v_ w1_ hp => ?_)
        obtain ⟨rkn, rpn, rgn, hrk, rfl, rfl⟩ := hp
        subst hrk
        refine z_perm (ws' := kpw E rkn (rpn 0) (rgn 0) (r1 0) (r4 0) zS0 ++ plw E rpn pI0 ++ grw E rgn zS0 ++ [(h0, .inr (7, [.ref (r1 0), .ref (r2 0), .ref (r3 0), .ref qa, .int 0]))] ++ sw E r1 zS0 ++ tpw E r2 zS0 ++ rdw E r3 (r2 0) .null zS0 ++ wkw E r4 (r1 0) zS0 ++ [(qa, .inl (E.2 4, 6, .inr (.inr (.inr (.inr (fN rk i))))))] ++ kN E rk rp rg r1 r4 i) (List.Perm.of_eq (by simp only [List.append_assoc])) ?_
        show Z X (14 + 16 * i + 1 + 15) (1163 + 869 * i + 14 + 855) (kpw E rkn (rpn 0) (rgn 0) (r1 0) (r4 0) zS0 ++ plw E rpn pI0 ++ grw E rgn zS0 ++ [(h0, .inr (7, [.ref (r1 0), .ref (r2 0), .ref (r3 0), .ref qa, .int 0]))] ++ sw E r1 zS0 ++ tpw E r2 zS0 ++ rdw E r3 (r2 0) .null zS0 ++ wkw E r4 (r1 0) zS0 ++ [(qa, .inl (E.2 4, 6, .inr (.inr (.inr (.inr (fN rk i))))))] ++ kN E rk rp rg r1 r4 i) [(0, .ref h0), (1, .ref (r4 0)), (2, .int (nI i))] 87 [.ref (rkn 0), .int (nI i), .ref qa]
        refine z_astq (pc := 87) (ws' := kpw E rkn (rpn 0) (rgn 0) (r1 0) (r4 0) zS0 ++ plw E rpn pI0 ++ grw E rgn zS0 ++ [(h0, .inr (7, [.ref (r1 0), .ref (r2 0), .ref (r3 0), .ref qa, .int 0]))] ++ sw E r1 zS0 ++ tpw E r2 zS0 ++ rdw E r3 (r2 0) .null zS0 ++ wkw E r4 (r1 0) zS0 ++ [(qa, .inl (E.2 4, 6, .inr (.inr (.inr (.inr (va_up (fN rk i) i (some (rkn 0))))))))] ++ kN E rk rp rg r1 r4 i) F 30 4 0 1 rfl rfl rfl rfl i rfl hil (by decide) dX7_init_87 rfl ?_
        refine z_blk [kpw E rkn (rpn 0) (rgn 0) (r1 0) (r4 0) zS0, plw E rpn pI0, grw E rgn zS0, [(h0, .inr (7, [.ref (r1 0), .ref (r2 0), .ref (r3 0), .ref qa, .int 0]))], sw E r1 zS0, tpw E r2 zS0, rdw E r3 (r2 0) .null zS0, wkw E r4 (r1 0) zS0, [(qa, .inl (E.2 4, 6, .inr (.inr (.inr (.inr (va_up (fN rk i) i (some (rkn 0))))))))], kN E rk rp rg r1 r4 i] [[(h0, .inr (7, [.ref (r1 0), .ref (r2 0), .ref (r3 0), .ref qa, .int 0]))], sw E r1 zS0, tpw E r2 zS0, rdw E r3 (r2 0) .null zS0, wkw E r4 (r1 0) zS0, [(qa, .inl (E.2 4, 6, .inr (.inr (.inr (.inr (va_up (fN rk i) i (some (rkn 0))))))))], kpw E rkn (rpn 0) (rgn 0) (r1 0) (r4 0) zS0, plw E rpn pI0, grw E rgn zS0, kN E rk rp rg r1 r4 i] [3, 4, 5, 6, 7, 8, 0, 1, 2, 9] 10 rfl (by decide) rfl ?_
        refine z_perm (ws' := [(h0, .inr (7, [.ref (r1 0), .ref (r2 0), .ref (r3 0), .ref qa, .int 0]))] ++ sw E r1 zS0 ++ tpw E r2 zS0 ++ rdw E r3 (r2 0) .null zS0 ++ wkw E r4 (r1 0) zS0 ++ [(qa, .inl (E.2 4, 6, .inr (.inr (.inr (.inr (fN (upR rk i rkn) (i + 1)))))))] ++ kN E (upR rk i rkn) (upR rp i rpn) (upR rg i rgn) r1 r4 (i + 1)) ?_ ?_
        · rw [← fN_s]; have hp := (kN_s E rk rp rg r1 r4 i rkn rpn rgn).append_left (([(h0, .inr (7, [.ref (r1 0), .ref (r2 0), .ref (r3 0), .ref qa, .int 0]))] ++ sw E r1 zS0 ++ tpw E r2 zS0 ++ rdw E r3 (r2 0) .null zS0 ++ wkw E r4 (r1 0) zS0 ++ [(qa, .inl (E.2 4, 6, .inr (.inr (.inr (.inr (va_up (fN rk i) i (some (rkn 0))))))))] : va_W)); show (([(h0, .inr (7, [.ref (r1 0), .ref (r2 0), .ref (r3 0), .ref qa, .int 0]))] ++ sw E r1 zS0 ++ tpw E r2 zS0 ++ rdw E r3 (r2 0) .null zS0 ++ wkw E r4 (r1 0) zS0 ++ [(qa, .inl (E.2 4, 6, .inr (.inr (.inr (.inr (va_up (fN rk i) i (some (rkn 0))))))))] ++ kpw E rkn (rpn 0) (rgn 0) (r1 0) (r4 0) zS0 ++ plw E rpn pI0 ++ grw E rgn zS0 ++ kN E rk rp rg r1 r4 i : va_W)).Perm _; simpa [List.append_assoc] using hp
        refine z_iinc (pc := 88) (v := nI (i + 1)) (lv' := [(0, .ref h0), (1, .ref (r4 0)), (2, .int (nI (i + 1)))]) F (j := 2) dX7_init_88 rfl (nI_1 _) (by decide) [1, 2, 0] rfl ?_
        refine z_goto (pc := 91) (tgt := 64) F dX7_init_91 (by decide) ?_
        have hih := ih (i + 1) (upR rk i rkn) (upR rp i rpn) (upR rg i rgn) (by omega) (by omega)
        rw [show 14 + 16 * (i + 1) = 14 + 16 * i + 1 + 15 by omega, show 1163 + 869 * (i + 1) = 1163 + 869 * i + 14 + 855 by omega] at hih
        exact hih
  have L0 := L64 7 0 (fun _ _ => 0) (fun _ _ => 0) (fun _ _ => 0) (by decide) (by decide)
  rw [fN_0] at L0
  refine z_perm (List.Perm.of_eq (List.append_nil _).symm) ?_
  exact L0

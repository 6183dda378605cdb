theorem x_X0_init : Cond.methodLink "LiveQueries$Groups" 3 Lib.objectInit ∈ lw_tb := tb 244 (by decide +kernel) (by decide +kernel)
theorem x_X2_init : Cond.methodLink "LiveQueries$Plan" 3 Lib.objectInit ∈ lw_tb := tb 191 (by decide +kernel) (by decide +kernel)
theorem x_X4_init : Cond.methodLink "LiveQueries$Store" 3 Lib.objectInit ∈ lw_tb := tb 99 (by decide +kernel) (by decide +kernel)
theorem x_X5_init : Cond.methodLink "LiveQueries$Tape" 3 Lib.objectInit ∈ lw_tb := tb 130 (by decide +kernel) (by decide +kernel)
set_option maxHeartbeats 1000000 in
set_option maxRecDepth 100000 in
theorem c_X0_init (l : Launch) (E : zE) (h0 : Nat) : Ct l yX0_init cX0_init 1 none ({ frames := 1, cells := 4, slots := 240, locals := 30 } : Room) E ([(h0, .inr (0, [.null, .null, .null, .null, .int 0]))]) [.ref h0] (fun v_ w_ => ∃ r : Nat → Nat, r 0 = h0 ∧ v_ = none ∧ w_ = grw E r zS0) := by
  refine Ct.ofI (by decide) rfl (Nat.le_of_ble_eq_true rfl) (lv := [(0, .ref h0)]) rfl ?_
  intro X F hR hI
  have F : zF X l ({ frames := 1, cells := 4, slots := 240, locals := 30 } : Room) E cX0_init 1 "LiveQueries$Groups" := F
  refine z_aload_n (pc := 0) F dX0_init_0 rfl 0 rfl ?_
  refine z_objInit (pc := 1) F ⟨x_X0_init, tw_oi, tw_oc⟩ dX0_init_1 (by decide) (by decide) (Nat.le_of_ble_eq_true rfl) ?_
  refine z_aload_n (pc := 4) F dX0_init_4 rfl 0 rfl ?_
  refine z_bipush (pc := 5) (v := 60) F dX0_init_5 (by decide) ?_
  refine z_newa (pc := 7) (atype := .long) (ty := .long) F 1 rfl (cT := E.2 1) rfl ty_long (N := 60) (a0 := (60, .inr (.inl (fun _ => 0)))) (fun _ => rfl) (by decide) (by decide) (by decide) (Nat.le_of_ble_eq_true rfl) (Nat.le_of_ble_eq_true rfl) dX0_init_7 (fun q1 => ?_)
  show Z X 1 60 ([(h0, .inr (0, [.null, .null, .null, .null, .int 0])), (q1, .inl (E.2 1, 60, .inr (.inl (fun _ => 0))))]) [(0, .ref h0)] 9 [.ref q1, .ref h0]
  refine z_putF (pc := 9) (ws' := [(h0, .inr (0, [.ref q1, .null, .null, .null, .int 0])), (q1, .inl (E.2 1, 60, .inr (.inl (fun _ => 0))))]) F hI iX0 tyX0 tyX0_ok nmX0 0 rfl rfl 0 (by decide) tw_245 rfl rfl rfl rfl (Nat.le_of_ble_eq_true rfl) dX0_init_9 rfl ?_
  refine z_aload_n (pc := 12) F dX0_init_12 rfl 0 rfl ?_
  refine z_bipush (pc := 13) (v := 60) F dX0_init_13 (by decide) ?_
  refine z_newa (pc := 15) (atype := .int) (ty := .int) F 0 rfl (cT := E.2 0) rfl ty_int (N := 60) (a0 := (60, .inl (fun _ => 0))) (fun _ => rfl) (by decide) (by decide) (by decide) (Nat.le_of_ble_eq_true rfl) (Nat.le_of_ble_eq_true rfl) dX0_init_15 (fun q2 => ?_)
  show Z X 2 120 ([(h0, .inr (0, [.ref q1, .null, .null, .null, .int 0])), (q1, .inl (E.2 1, 60, .inr (.inl (fun _ => 0)))), (q2, .inl (E.2 0, 60, .inl (fun _ => 0)))]) [(0, .ref h0)] 17 [.ref q2, .ref h0]
  refine z_putF (pc := 17) (ws' := [(h0, .inr (0, [.ref q1, .ref q2, .null, .null, .int 0])), (q1, .inl (E.2 1, 60, .inr (.inl (fun _ => 0)))), (q2, .inl (E.2 0, 60, .inl (fun _ => 0)))]) F hI iX0 tyX0 tyX0_ok nmX0 0 rfl rfl 1 (by decide) tw_246 rfl rfl rfl rfl (Nat.le_of_ble_eq_true rfl) dX0_init_17 rfl ?_
  refine z_aload_n (pc := 20) F dX0_init_20 rfl 0 rfl ?_
  refine z_bipush (pc := 21) (v := 60) F dX0_init_21 (by decide) ?_
  refine z_newa (pc := 23) (atype := .long) (ty := .long) F 1 rfl (cT := E.2 1) rfl ty_long (N := 60) (a0 := (60, .inr (.inl (fun _ => 0)))) (fun _ => rfl) (by decide) (by decide) (by decide) (Nat.le_of_ble_eq_true rfl) (Nat.le_of_ble_eq_true rfl) dX0_init_23 (fun q3 => ?_)
  show Z X 3 180 ([(h0, .inr (0, [.ref q1, .ref q2, .null, .null, .int 0])), (q1, .inl (E.2 1, 60, .inr (.inl (fun _ => 0)))), (q2, .inl (E.2 0, 60, .inl (fun _ => 0))), (q3, .inl (E.2 1, 60, .inr (.inl (fun _ => 0))))]) [(0, .ref h0)] 25 [.ref q3, .ref h0]
  refine z_putF (pc := 25) (ws' := [(h0, .inr (0, [.ref q1, .ref q2, .ref q3, .null, .int 0])), (q1, .inl (E.2 1, 60, .inr (.inl (fun _ => 0)))), (q2, .inl (E.2 0, 60, .inl (fun _ => 0))), (q3, .inl (E.2 1, 60, .inr (.inl (fun _ => 0))))]) F hI iX0 tyX0 tyX0_ok nmX0 0 rfl rfl 2 (by decide) tw_247 rfl rfl rfl rfl (Nat.le_of_ble_eq_true rfl) dX0_init_25 rfl ?_
  refine z_aload_n (pc := 28) F dX0_init_28 rfl 0 rfl ?_
  refine z_bipush (pc := 29) (v := 60) F dX0_init_29 (by decide) ?_
  refine z_newa (pc := 31) (atype := .long) (ty := .long) F 1 rfl (cT := E.2 1) rfl ty_long (N := 60) (a0 := (60, .inr (.inl (fun _ => 0)))) (fun _ => rfl) (by decide) (by decide) (by decide) (Nat.le_of_ble_eq_true rfl) (Nat.le_of_ble_eq_true rfl) dX0_init_31 (fun q4 => ?_)
  show Z X 4 240 ([(h0, .inr (0, [.ref q1, .ref q2, .ref q3, .null, .int 0])), (q1, .inl (E.2 1, 60, .inr (.inl (fun _ => 0)))), (q2, .inl (E.2 0, 60, .inl (fun _ => 0))), (q3, .inl (E.2 1, 60, .inr (.inl (fun _ => 0)))), (q4, .inl (E.2 1, 60, .inr (.inl (fun _ => 0))))]) [(0, .ref h0)] 33 [.ref q4, .ref h0]
  refine z_putF (pc := 33) (ws' := [(h0, .inr (0, [.ref q1, .ref q2, .ref q3, .ref q4, .int 0])), (q1, .inl (E.2 1, 60, .inr (.inl (fun _ => 0)))), (q2, .inl (E.2 0, 60, .inl (fun _ => 0))), (q3, .inl (E.2 1, 60, .inr (.inl (fun _ => 0)))), (q4, .inl (E.2 1, 60, .inr (.inl (fun _ => 0))))]) F hI iX0 tyX0 tyX0_ok nmX0 0 rfl rfl 3 (by decide) tw_248 rfl rfl rfl rfl (Nat.le_of_ble_eq_true rfl) dX0_init_33 rfl ?_
  refine z_aload_n (pc := 36) F dX0_init_36 rfl 0 rfl ?_
  refine z_iconst (pc := 37) (v := 0) F dX0_init_37 (by decide) ?_
  refine z_put (pc := 38) (ws' := [(h0, .inr (0, [.ref q1, .ref q2, .ref q3, .ref q4, .int 0])), (q1, .inl (E.2 1, 60, .inr (.inl (fun _ => 0)))), (q2, .inl (E.2 0, 60, .inl (fun _ => 0))), (q3, .inl (E.2 1, 60, .inr (.inl (fun _ => 0)))), (q4, .inl (E.2 1, 60, .inr (.inl (fun _ => 0))))]) F iX0 tyX0 tyX0_ok nmX0 0 rfl rfl 4 (by decide) tw_249 rfl rfl rfl (Nat.le_of_ble_eq_true rfl) dX0_init_38 rfl ?_
  exact z_vret (pc := 41) F hR dX0_init_41 (Nat.le_of_ble_eq_true rfl) (Nat.le_of_ble_eq_true rfl) ⟨(fun i => if i = 0 then h0 else if i = 1 then q1 else if i = 2 then q2 else if i = 3 then q3 else if i = 4 then q4 else 0), rfl, rfl, rfl⟩
set_option maxHeartbeats 1000000 in
set_option maxRecDepth 100000 in
theorem c_X2_init (l : Launch) (E : zE) (h0 : Nat) : Ct l yX2_init cX2_init 1 none ({ frames := 1, cells := 3, slots := 240, locals := 30 } : Room) E ([(h0, .inr (2, [.null, .null, .null, .int 0, .int 0, .int 0, .int 0, .int 0, .int 0, .int 0]))]) [.ref h0] (fun v_ w_ => ∃ r : Nat → Nat, r 0 = h0 ∧ v_ = none ∧ w_ = plw E r (zI (zI (zI (zI zS0 3 (-1)) 4 (-1)) 5 (-1)) 6 (-1))) := by
  refine Ct.ofI (by decide) rfl (Nat.le_of_ble_eq_true rfl) (lv := [(0, .ref h0)]) rfl ?_
  intro X F hR hI
  have F : zF X l ({ frames := 1, cells := 3, slots := 240, locals := 30 } : Room) E cX2_init 1 "LiveQueries$Plan" := F
  refine z_aload_n (pc := 0) F dX2_init_0 rfl 0 rfl ?_
  refine z_objInit (pc := 1) F ⟨x_X2_init, tw_oi, tw_oc⟩ dX2_init_1 (by decide) (by decide) (Nat.le_of_ble_eq_true rfl) ?_
  refine z_aload_n (pc := 4) F dX2_init_4 rfl 0 rfl ?_
  refine z_bipush (pc := 5) (v := 80) F dX2_init_5 (by decide) ?_
  refine z_newa (pc := 7) (atype := .char) (ty := .char) F 3 rfl (cT := E.2 3) rfl ty_char (N := 80) (a0 := (80, .inl (fun _ => 0))) (fun _ => rfl) (by decide) (by decide) (by decide) (Nat.le_of_ble_eq_true rfl) (Nat.le_of_ble_eq_true rfl) dX2_init_7 (fun q1 => ?_)
  show Z X 1 80 ([(h0, .inr (2, [.null, .null, .null, .int 0, .int 0, .int 0, .int 0, .int 0, .int 0, .int 0])), (q1, .inl (E.2 3, 80, .inl (fun _ => 0)))]) [(0, .ref h0)] 9 [.ref q1, .ref h0]
  refine z_putF (pc := 9) (ws' := [(h0, .inr (2, [.ref q1, .null, .null, .int 0, .int 0, .int 0, .int 0, .int 0, .int 0, .int 0])), (q1, .inl (E.2 3, 80, .inl (fun _ => 0)))]) F hI iX2 tyX2 tyX2_ok nmX2 0 rfl rfl 0 (by decide) tw_192 rfl rfl rfl rfl (Nat.le_of_ble_eq_true rfl) dX2_init_9 rfl ?_
  refine z_aload_n (pc := 12) F dX2_init_12 rfl 0 rfl ?_
  refine z_bipush (pc := 13) (v := 80) F dX2_init_13 (by decide) ?_
  refine z_newa (pc := 15) (atype := .int) (ty := .int) F 0 rfl (cT := E.2 0) rfl ty_int (N := 80) (a0 := (80, .inl (fun _ => 0))) (fun _ => rfl) (by decide) (by decide) (by decide) (Nat.le_of_ble_eq_true rfl) (Nat.le_of_ble_eq_true rfl) dX2_init_15 (fun q2 => ?_)
  show Z X 2 160 ([(h0, .inr (2, [.ref q1, .null, .null, .int 0, .int 0, .int 0, .int 0, .int 0, .int 0, .int 0])), (q1, .inl (E.2 3, 80, .inl (fun _ => 0))), (q2, .inl (E.2 0, 80, .inl (fun _ => 0)))]) [(0, .ref h0)] 17 [.ref q2, .ref h0]
  refine z_putF (pc := 17) (ws' := [(h0, .inr (2, [.ref q1, .ref q2, .null, .int 0, .int 0, .int 0, .int 0, .int 0, .int 0, .int 0])), (q1, .inl (E.2 3, 80, .inl (fun _ => 0))), (q2, .inl (E.2 0, 80, .inl (fun _ => 0)))]) F hI iX2 tyX2 tyX2_ok nmX2 0 rfl rfl 1 (by decide) tw_194 rfl rfl rfl rfl (Nat.le_of_ble_eq_true rfl) dX2_init_17 rfl ?_
  refine z_aload_n (pc := 20) F dX2_init_20 rfl 0 rfl ?_
  refine z_bipush (pc := 21) (v := 80) F dX2_init_21 (by decide) ?_
  refine z_newa (pc := 23) (atype := .int) (ty := .int) F 0 rfl (cT := E.2 0) rfl ty_int (N := 80) (a0 := (80, .inl (fun _ => 0))) (fun _ => rfl) (by decide) (by decide) (by decide) (Nat.le_of_ble_eq_true rfl) (Nat.le_of_ble_eq_true rfl) dX2_init_23 (fun q3 => ?_)
  show Z X 3 240 ([(h0, .inr (2, [.ref q1, .ref q2, .null, .int 0, .int 0, .int 0, .int 0, .int 0, .int 0, .int 0])), (q1, .inl (E.2 3, 80, .inl (fun _ => 0))), (q2, .inl (E.2 0, 80, .inl (fun _ => 0))), (q3, .inl (E.2 0, 80, .inl (fun _ => 0)))]) [(0, .ref h0)] 25 [.ref q3, .ref h0]
  refine z_putF (pc := 25) (ws' := [(h0, .inr (2, [.ref q1, .ref q2, .ref q3, .int 0, .int 0, .int 0, .int 0, .int 0, .int 0, .int 0])), (q1, .inl (E.2 3, 80, .inl (fun _ => 0))), (q2, .inl (E.2 0, 80, .inl (fun _ => 0))), (q3, .inl (E.2 0, 80, .inl (fun _ => 0)))]) F hI iX2 tyX2 tyX2_ok nmX2 0 rfl rfl 2 (by decide) tw_196 rfl rfl rfl rfl (Nat.le_of_ble_eq_true rfl) dX2_init_25 rfl ?_
  refine z_aload_n (pc := 28) F dX2_init_28 rfl 0 rfl ?_
  refine z_iconst (pc := 29) (v := 0) F dX2_init_29 (by decide) ?_
  refine z_put (pc := 30) (ws' := [(h0, .inr (2, [.ref q1, .ref q2, .ref q3, .int 0, .int 0, .int 0, .int 0, .int 0, .int 0, .int 0])), (q1, .inl (E.2 3, 80, .inl (fun _ => 0))), (q2, .inl (E.2 0, 80, .inl (fun _ => 0))), (q3, .inl (E.2 0, 80, .inl (fun _ => 0)))]) F iX2 tyX2 tyX2_ok nmX2 0 rfl rfl 3 (by decide) tw_198 rfl rfl rfl (Nat.le_of_ble_eq_true rfl) dX2_init_30 rfl ?_
  refine z_aload_n (pc := 33) F dX2_init_33 rfl 0 rfl ?_
  refine z_iconst (pc := 34) (v := 0) F dX2_init_34 (by decide) ?_
  refine z_put (pc := 35) (ws' := [(h0, .inr (2, [.ref q1, .ref q2, .ref q3, .int 0, .int 0, .int 0, .int 0, .int 0, .int 0, .int 0])), (q1, .inl (E.2 3, 80, .inl (fun _ => 0))), (q2, .inl (E.2 0, 80, .inl (fun _ => 0))), (q3, .inl (E.2 0, 80, .inl (fun _ => 0)))]) F iX2 tyX2 tyX2_ok nmX2 0 rfl rfl 4 (by decide) tw_200 rfl rfl rfl (Nat.le_of_ble_eq_true rfl) dX2_init_35 rfl ?_
  refine z_aload_n (pc := 38) F dX2_init_38 rfl 0 rfl ?_
  refine z_iconst (pc := 39) (v := 0) F dX2_init_39 (by decide) ?_
  refine z_put (pc := 40) (ws' := [(h0, .inr (2, [.ref q1, .ref q2, .ref q3, .int 0, .int 0, .int 0, .int 0, .int 0, .int 0, .int 0])), (q1, .inl (E.2 3, 80, .inl (fun _ => 0))), (q2, .inl (E.2 0, 80, .inl (fun _ => 0))), (q3, .inl (E.2 0, 80, .inl (fun _ => 0)))]) F iX2 tyX2 tyX2_ok nmX2 0 rfl rfl 5 (by decide) tw_203 rfl rfl rfl (Nat.le_of_ble_eq_true rfl) dX2_init_40 rfl ?_
  refine z_aload_n (pc := 43) F dX2_init_43 rfl 0 rfl ?_
  refine z_iconst (pc := 44) (v := (-1)) F dX2_init_44 (by decide) ?_
  refine z_put (pc := 45) (ws' := [(h0, .inr (2, [.ref q1, .ref q2, .ref q3, .int 0, .int 0, .int 0, .int (-1), .int 0, .int 0, .int 0])), (q1, .inl (E.2 3, 80, .inl (fun _ => 0))), (q2, .inl (E.2 0, 80, .inl (fun _ => 0))), (q3, .inl (E.2 0, 80, .inl (fun _ => 0)))]) F iX2 tyX2 tyX2_ok nmX2 0 rfl rfl 6 (by decide) tw_206 rfl rfl rfl (Nat.le_of_ble_eq_true rfl) dX2_init_45 rfl ?_
  refine z_aload_n (pc := 48) F dX2_init_48 rfl 0 rfl ?_
  refine z_iconst (pc := 49) (v := (-1)) F dX2_init_49 (by decide) ?_
  refine z_put (pc := 50) (ws' := [(h0, .inr (2, [.ref q1, .ref q2, .ref q3, .int 0, .int 0, .int 0, .int (-1), .int (-1), .int 0, .int 0])), (q1, .inl (E.2 3, 80, .inl (fun _ => 0))), (q2, .inl (E.2 0, 80, .inl (fun _ => 0))), (q3, .inl (E.2 0, 80, .inl (fun _ => 0)))]) F iX2 tyX2 tyX2_ok nmX2 0 rfl rfl 7 (by decide) tw_209 rfl rfl rfl (Nat.le_of_ble_eq_true rfl) dX2_init_50 rfl ?_
  refine z_aload_n (pc := 53) F dX2_init_53 rfl 0 rfl ?_
  refine z_iconst (pc := 54) (v := (-1)) F dX2_init_54 (by decide) ?_
  refine z_put (pc := 55) (ws' := [(h0, .inr (2, [.ref q1, .ref q2, .ref q3, .int 0, .int 0, .int 0, .int (-1), .int (-1), .int (-1), .int 0])), (q1, .inl (E.2 3, 80, .inl (fun _ => 0))), (q2, .inl (E.2 0, 80, .inl (fun _ => 0))), (q3, .inl (E.2 0, 80, .inl (fun _ => 0)))]) F iX2 tyX2 tyX2_ok nmX2 0 rfl rfl 8 (by decide) tw_212 rfl rfl rfl (Nat.le_of_ble_eq_true rfl) dX2_init_55 rfl ?_
  refine z_aload_n (pc := 58) F dX2_init_58 rfl 0 rfl ?_
  refine z_iconst (pc := 59) (v := (-1)) F dX2_init_59 (by decide) ?_
  refine z_put (pc := 60) (ws' := [(h0, .inr (2, [.ref q1, .ref q2, .ref q3, .int 0, .int 0, .int 0, .int (-1), .int (-1), .int (-1), .int (-1)])), (q1, .inl (E.2 3, 80, .inl (fun _ => 0))), (q2, .inl (E.2 0, 80, .inl (fun _ => 0))), (q3, .inl (E.2 0, 80, .inl (fun _ => 0)))]) F iX2 tyX2 tyX2_ok nmX2 0 rfl rfl 9 (by decide) tw_215 rfl rfl rfl (Nat.le_of_ble_eq_true rfl) dX2_init_60 rfl ?_
  exact z_vret (pc := 63) F hR dX2_init_63 (Nat.le_of_ble_eq_true rfl) (Nat.le_of_ble_eq_true rfl) ⟨(fun i => if i = 0 then h0 else if i = 1 then q1 else if i = 2 then q2 else if i = 3 then q3 else 0), rfl, rfl, rfl⟩
set_option maxHeartbeats 1000000 in
set_option maxRecDepth 100000 in
theorem c_X4_init (l : Launch) (E : zE) (h0 : Nat) : Ct l yX4_init cX4_init 1 none ({ frames := 1, cells := 6, slots := 900, locals := 30 } : Room) E ([(h0, .inr (4, [.null, .null, .null, .null, .null, .null, .int 0]))]) [.ref h0] (fun v_ w_ => ∃ r : Nat → Nat, r 0 = h0 ∧ v_ = none ∧ w_ = sw E r zS0) := by
  refine Ct.ofI (by decide) rfl (Nat.le_of_ble_eq_true rfl) (lv := [(0, .ref h0)]) rfl ?_
  intro X F hR hI
  have F : zF X l ({ frames := 1, cells := 6, slots := 900, locals := 30 } : Room) E cX4_init 1 "LiveQueries$Store" := F
  refine z_aload_n (pc := 0) F dX4_init_0 rfl 0 rfl ?_
  refine z_objInit (pc := 1) F ⟨x_X4_init, tw_oi, tw_oc⟩ dX4_init_1 (by decide) (by decide) (Nat.le_of_ble_eq_true rfl) ?_
  refine z_aload_n (pc := 4) F dX4_init_4 rfl 0 rfl ?_
  refine z_bipush (pc := 5) (v := 60) F dX4_init_5 (by decide) ?_
  refine z_newa (pc := 7) (atype := .boolean) (ty := .boolean) F 2 rfl (cT := E.2 2) rfl ty_boolean (N := 60) (a0 := (60, .inl (fun _ => 0))) (fun _ => rfl) (by decide) (by decide) (by decide) (Nat.le_of_ble_eq_true rfl) (Nat.le_of_ble_eq_true rfl) dX4_init_7 (fun q1 => ?_)
  show Z X 1 60 ([(h0, .inr (4, [.null, .null, .null, .null, .null, .null, .int 0])), (q1, .inl (E.2 2, 60, .inl (fun _ => 0)))]) [(0, .ref h0)] 9 [.ref q1, .ref h0]
  refine z_putF (pc := 9) (ws' := [(h0, .inr (4, [.ref q1, .null, .null, .null, .null, .null, .int 0])), (q1, .inl (E.2 2, 60, .inl (fun _ => 0)))]) F hI iX4 tyX4 tyX4_ok nmX4 0 rfl rfl 0 (by decide) tw_100 rfl rfl rfl rfl (Nat.le_of_ble_eq_true rfl) dX4_init_9 rfl ?_
  refine z_aload_n (pc := 12) F dX4_init_12 rfl 0 rfl ?_
  refine z_bipush (pc := 13) (v := 60) F dX4_init_13 (by decide) ?_
  refine z_newa (pc := 15) (atype := .int) (ty := .int) F 0 rfl (cT := E.2 0) rfl ty_int (N := 60) (a0 := (60, .inl (fun _ => 0))) (fun _ => rfl) (by decide) (by decide) (by decide) (Nat.le_of_ble_eq_true rfl) (Nat.le_of_ble_eq_true rfl) dX4_init_15 (fun q2 => ?_)
  show Z X 2 120 ([(h0, .inr (4, [.ref q1, .null, .null, .null, .null, .null, .int 0])), (q1, .inl (E.2 2, 60, .inl (fun _ => 0))), (q2, .inl (E.2 0, 60, .inl (fun _ => 0)))]) [(0, .ref h0)] 17 [.ref q2, .ref h0]
  refine z_putF (pc := 17) (ws' := [(h0, .inr (4, [.ref q1, .ref q2, .null, .null, .null, .null, .int 0])), (q1, .inl (E.2 2, 60, .inl (fun _ => 0))), (q2, .inl (E.2 0, 60, .inl (fun _ => 0)))]) F hI iX4 tyX4 tyX4_ok nmX4 0 rfl rfl 1 (by decide) tw_101 rfl rfl rfl rfl (Nat.le_of_ble_eq_true rfl) dX4_init_17 rfl ?_
  refine z_aload_n (pc := 20) F dX4_init_20 rfl 0 rfl ?_
  refine z_bipush (pc := 21) (v := 60) F dX4_init_21 (by decide) ?_
  refine z_newa (pc := 23) (atype := .int) (ty := .int) F 0 rfl (cT := E.2 0) rfl ty_int (N := 60) (a0 := (60, .inl (fun _ => 0))) (fun _ => rfl) (by decide) (by decide) (by decide) (Nat.le_of_ble_eq_true rfl) (Nat.le_of_ble_eq_true rfl) dX4_init_23 (fun q3 => ?_)
  show Z X 3 180 ([(h0, .inr (4, [.ref q1, .ref q2, .null, .null, .null, .null, .int 0])), (q1, .inl (E.2 2, 60, .inl (fun _ => 0))), (q2, .inl (E.2 0, 60, .inl (fun _ => 0))), (q3, .inl (E.2 0, 60, .inl (fun _ => 0)))]) [(0, .ref h0)] 25 [.ref q3, .ref h0]
  refine z_putF (pc := 25) (ws' := [(h0, .inr (4, [.ref q1, .ref q2, .ref q3, .null, .null, .null, .int 0])), (q1, .inl (E.2 2, 60, .inl (fun _ => 0))), (q2, .inl (E.2 0, 60, .inl (fun _ => 0))), (q3, .inl (E.2 0, 60, .inl (fun _ => 0)))]) F hI iX4 tyX4 tyX4_ok nmX4 0 rfl rfl 2 (by decide) tw_102 rfl rfl rfl rfl (Nat.le_of_ble_eq_true rfl) dX4_init_25 rfl ?_
  refine z_aload_n (pc := 28) F dX4_init_28 rfl 0 rfl ?_
  refine z_bipush (pc := 29) (v := 60) F dX4_init_29 (by decide) ?_
  refine z_newa (pc := 31) (atype := .int) (ty := .int) F 0 rfl (cT := E.2 0) rfl ty_int (N := 60) (a0 := (60, .inl (fun _ => 0))) (fun _ => rfl) (by decide) (by decide) (by decide) (Nat.le_of_ble_eq_true rfl) (Nat.le_of_ble_eq_true rfl) dX4_init_31 (fun q4 => ?_)
  show Z X 4 240 ([(h0, .inr (4, [.ref q1, .ref q2, .ref q3, .null, .null, .null, .int 0])), (q1, .inl (E.2 2, 60, .inl (fun _ => 0))), (q2, .inl (E.2 0, 60, .inl (fun _ => 0))), (q3, .inl (E.2 0, 60, .inl (fun _ => 0))), (q4, .inl (E.2 0, 60, .inl (fun _ => 0)))]) [(0, .ref h0)] 33 [.ref q4, .ref h0]
  refine z_putF (pc := 33) (ws' := [(h0, .inr (4, [.ref q1, .ref q2, .ref q3, .ref q4, .null, .null, .int 0])), (q1, .inl (E.2 2, 60, .inl (fun _ => 0))), (q2, .inl (E.2 0, 60, .inl (fun _ => 0))), (q3, .inl (E.2 0, 60, .inl (fun _ => 0))), (q4, .inl (E.2 0, 60, .inl (fun _ => 0)))]) F hI iX4 tyX4 tyX4_ok nmX4 0 rfl rfl 3 (by decide) tw_103 rfl rfl rfl rfl (Nat.le_of_ble_eq_true rfl) dX4_init_33 rfl ?_
  refine z_aload_n (pc := 36) F dX4_init_36 rfl 0 rfl ?_
  refine z_sipush (pc := 37) (v := 180) F dX4_init_37 (by decide) ?_
  refine z_newa (pc := 40) (atype := .long) (ty := .long) F 1 rfl (cT := E.2 1) rfl ty_long (N := 180) (a0 := (180, .inr (.inl (fun _ => 0)))) (fun _ => rfl) (by decide) (by decide) (by decide) (Nat.le_of_ble_eq_true rfl) (Nat.le_of_ble_eq_true rfl) dX4_init_40 (fun q5 => ?_)
  show Z X 5 420 ([(h0, .inr (4, [.ref q1, .ref q2, .ref q3, .ref q4, .null, .null, .int 0])), (q1, .inl (E.2 2, 60, .inl (fun _ => 0))), (q2, .inl (E.2 0, 60, .inl (fun _ => 0))), (q3, .inl (E.2 0, 60, .inl (fun _ => 0))), (q4, .inl (E.2 0, 60, .inl (fun _ => 0))), (q5, .inl (E.2 1, 180, .inr (.inl (fun _ => 0))))]) [(0, .ref h0)] 42 [.ref q5, .ref h0]
  refine z_putF (pc := 42) (ws' := [(h0, .inr (4, [.ref q1, .ref q2, .ref q3, .ref q4, .ref q5, .null, .int 0])), (q1, .inl (E.2 2, 60, .inl (fun _ => 0))), (q2, .inl (E.2 0, 60, .inl (fun _ => 0))), (q3, .inl (E.2 0, 60, .inl (fun _ => 0))), (q4, .inl (E.2 0, 60, .inl (fun _ => 0))), (q5, .inl (E.2 1, 180, .inr (.inl (fun _ => 0))))]) F hI iX4 tyX4 tyX4_ok nmX4 0 rfl rfl 4 (by decide) tw_104 rfl rfl rfl rfl (Nat.le_of_ble_eq_true rfl) dX4_init_42 rfl ?_
  refine z_aload_n (pc := 45) F dX4_init_45 rfl 0 rfl ?_
  refine z_sipush (pc := 46) (v := 480) F dX4_init_46 (by decide) ?_
  refine z_newa (pc := 49) (atype := .long) (ty := .long) F 1 rfl (cT := E.2 1) rfl ty_long (N := 480) (a0 := (480, .inr (.inl (fun _ => 0)))) (fun _ => rfl) (by decide) (by decide) (by decide) (Nat.le_of_ble_eq_true rfl) (Nat.le_of_ble_eq_true rfl) dX4_init_49 (fun q6 => ?_)
  show Z X 6 900 ([(h0, .inr (4, [.ref q1, .ref q2, .ref q3, .ref q4, .ref q5, .null, .int 0])), (q1, .inl (E.2 2, 60, .inl (fun _ => 0))), (q2, .inl (E.2 0, 60, .inl (fun _ => 0))), (q3, .inl (E.2 0, 60, .inl (fun _ => 0))), (q4, .inl (E.2 0, 60, .inl (fun _ => 0))), (q5, .inl (E.2 1, 180, .inr (.inl (fun _ => 0)))), (q6, .inl (E.2 1, 480, .inr (.inl (fun _ => 0))))]) [(0, .ref h0)] 51 [.ref q6, .ref h0]
  refine z_putF (pc := 51) (ws' := [(h0, .inr (4, [.ref q1, .ref q2, .ref q3, .ref q4, .ref q5, .ref q6, .int 0])), (q1, .inl (E.2 2, 60, .inl (fun _ => 0))), (q2, .inl (E.2 0, 60, .inl (fun _ => 0))), (q3, .inl (E.2 0, 60, .inl (fun _ => 0))), (q4, .inl (E.2 0, 60, .inl (fun _ => 0))), (q5, .inl (E.2 1, 180, .inr (.inl (fun _ => 0)))), (q6, .inl (E.2 1, 480, .inr (.inl (fun _ => 0))))]) F hI iX4 tyX4 tyX4_ok nmX4 0 rfl rfl 5 (by decide) tw_105 rfl rfl rfl rfl (Nat.le_of_ble_eq_true rfl) dX4_init_51 rfl ?_
  refine z_aload_n (pc := 54) F dX4_init_54 rfl 0 rfl ?_
  refine z_iconst (pc := 55) (v := 0) F dX4_init_55 (by decide) ?_
  refine z_put (pc := 56) (ws' := [(h0, .inr (4, [.ref q1, .ref q2, .ref q3, .ref q4, .ref q5, .ref q6, .int 0])), (q1, .inl (E.2 2, 60, .inl (fun _ => 0))), (q2, .inl (E.2 0, 60, .inl (fun _ => 0))), (q3, .inl (E.2 0, 60, .inl (fun _ => 0))), (q4, .inl (E.2 0, 60, .inl (fun _ => 0))), (q5, .inl (E.2 1, 180, .inr (.inl (fun _ => 0)))), (q6, .inl (E.2 1, 480, .inr (.inl (fun _ => 0))))]) F iX4 tyX4 tyX4_ok nmX4 0 rfl rfl 6 (by decide) tw_106 rfl rfl rfl (Nat.le_of_ble_eq_true rfl) dX4_init_56 rfl ?_
  exact z_vret (pc := 59) F hR dX4_init_59 (Nat.le_of_ble_eq_true rfl) (Nat.le_of_ble_eq_true rfl) ⟨(fun i => if i = 0 then h0 else if i = 1 then q1 else if i = 2 then q2 else if i = 3 then q3 else if i = 4 then q4 else if i = 5 then q5 else if i = 6 then q6 else 0), rfl, rfl, rfl⟩
set_option maxHeartbeats 1000000 in
set_option maxRecDepth 100000 in
theorem c_X5_init (l : Launch) (E : zE) (h0 : Nat) : Ct l yX5_init cX5_init 1 none ({ frames := 1, cells := 1, slots := 80, locals := 30 } : Room) E ([(h0, .inr (5, [.null, .int 0]))]) [.ref h0] (fun v_ w_ => ∃ r : Nat → Nat, r 0 = h0 ∧ v_ = none ∧ w_ = tpw E r zS0) := by
  refine Ct.ofI (by decide) rfl (Nat.le_of_ble_eq_true rfl) (lv := [(0, .ref h0)]) rfl ?_
  intro X F hR hI
  have F : zF X l ({ frames := 1, cells := 1, slots := 80, locals := 30 } : Room) E cX5_init 1 "LiveQueries$Tape" := F
  refine z_aload_n (pc := 0) F dX5_init_0 rfl 0 rfl ?_
  refine z_objInit (pc := 1) F ⟨x_X5_init, tw_oi, tw_oc⟩ dX5_init_1 (by decide) (by decide) (Nat.le_of_ble_eq_true rfl) ?_
  refine z_aload_n (pc := 4) F dX5_init_4 rfl 0 rfl ?_
  refine z_bipush (pc := 5) (v := 80) F dX5_init_5 (by decide) ?_
  refine z_newa (pc := 7) (atype := .char) (ty := .char) F 3 rfl (cT := E.2 3) rfl ty_char (N := 80) (a0 := (80, .inl (fun _ => 0))) (fun _ => rfl) (by decide) (by decide) (by decide) (Nat.le_of_ble_eq_true rfl) (Nat.le_of_ble_eq_true rfl) dX5_init_7 (fun q1 => ?_)
  show Z X 1 80 ([(h0, .inr (5, [.null, .int 0])), (q1, .inl (E.2 3, 80, .inl (fun _ => 0)))]) [(0, .ref h0)] 9 [.ref q1, .ref h0]
  refine z_putF (pc := 9) (ws' := [(h0, .inr (5, [.ref q1, .int 0])), (q1, .inl (E.2 3, 80, .inl (fun _ => 0)))]) F hI iX5 tyX5 tyX5_ok nmX5 0 rfl rfl 0 (by decide) tw_131 rfl rfl rfl rfl (Nat.le_of_ble_eq_true rfl) dX5_init_9 rfl ?_
  refine z_aload_n (pc := 12) F dX5_init_12 rfl 0 rfl ?_
  refine z_iconst (pc := 13) (v := 0) F dX5_init_13 (by decide) ?_
  refine z_put (pc := 14) (ws' := [(h0, .inr (5, [.ref q1, .int 0])), (q1, .inl (E.2 3, 80, .inl (fun _ => 0)))]) F iX5 tyX5 tyX5_ok nmX5 0 rfl rfl 1 (by decide) tw_133 rfl rfl rfl (Nat.le_of_ble_eq_true rfl) dX5_init_14 rfl ?_
  exact z_vret (pc := 17) F hR dX5_init_17 (Nat.le_of_ble_eq_true rfl) (Nat.le_of_ble_eq_true rfl) ⟨(fun i => if i = 0 then h0 else if i = 1 then q1 else 0), rfl, rfl, rfl⟩

set_option maxHeartbeats 4000000 in
set_option maxRecDepth 100000 in
theorem c_J13_bitCount_95d88 (l : Launch) (E : zE) (x : Int64) : Ct l yJ13_bitCount_95d88 cJ13_bitCount_95d88 2 (some .int) ({ frames := 0, cells := 0, slots := 0, locals := 0 } : Room) E ([]) [.long x] (fun v_ w_ => v_ = some (.int (bcI x)) ∧ w_ = []) := by
  refine Ct.ofF (by decide +kernel) (Nat.le_of_ble_eq_true rfl) (lv := [(0, .long x)]) rfl ?_
  intro X F hR
  have F : zF X l ({ frames := 0, cells := 0, slots := 0, locals := 0 } : Room) E cJ13_bitCount_95d88 2 "java/lang/Long" := F
  refine z_lload_n (pc := 0) F dJ13_bitCount_95d88_0 rfl 0 rfl ?_
  refine z_lload_n (pc := 1) F dJ13_bitCount_95d88_1 rfl 0 rfl ?_
  refine z_iconst (pc := 2) (v := 1) F dJ13_bitCount_95d88_2 (by decide) ?_
  refine z_lushr (pc := 3) F dJ13_bitCount_95d88_3 ?_
  refine z_ldc2 (pc := 4) F dJ13_bitCount_95d88_4 tw_492 ?_
  refine z_land (pc := 7) F dJ13_bitCount_95d88_7 ?_
  refine z_lsub (pc := 8) F dJ13_bitCount_95d88_8 ?_
  rw [show (x - (((x.toUInt64 >>> ((1 : Int32).toInt64.toUInt64 &&& Int64.toUInt64 63)).toInt64) &&& 6148914691236517205)) = bc1 x from rfl]
  refine z_lstore_n (pc := 9) (lv' := [(0, .long (bc1 x))]) F dJ13_bitCount_95d88_9 rfl (by decide) [0] rfl ?_
  refine z_lload_n (pc := 10) F dJ13_bitCount_95d88_10 rfl 0 rfl ?_
  refine z_ldc2 (pc := 11) F dJ13_bitCount_95d88_11 tw_493 ?_
  refine z_land (pc := 14) F dJ13_bitCount_95d88_14 ?_
  refine z_lload_n (pc := 15) F dJ13_bitCount_95d88_15 rfl 0 rfl ?_
  refine z_iconst (pc := 16) (v := 2) F dJ13_bitCount_95d88_16 (by decide) ?_
  refine z_lushr (pc := 17) F dJ13_bitCount_95d88_17 ?_
  refine z_ldc2 (pc := 18) F dJ13_bitCount_95d88_18 tw_493 ?_
  refine z_land (pc := 21) F dJ13_bitCount_95d88_21 ?_
  refine z_ladd (pc := 22) F dJ13_bitCount_95d88_22 ?_
  rw [show (((bc1 x) &&& 3689348814741910323) + ((((bc1 x).toUInt64 >>> ((2 : Int32).toInt64.toUInt64 &&& Int64.toUInt64 63)).toInt64) &&& 3689348814741910323)) = bc2 (bc1 x) from rfl]
  refine z_lstore_n (pc := 23) (lv' := [(0, .long (bc2 (bc1 x)))]) F dJ13_bitCount_95d88_23 rfl (by decide) [0] rfl ?_
  refine z_lload_n (pc := 24) F dJ13_bitCount_95d88_24 rfl 0 rfl ?_
  refine z_lload_n (pc := 25) F dJ13_bitCount_95d88_25 rfl 0 rfl ?_
  refine z_iconst (pc := 26) (v := 4) F dJ13_bitCount_95d88_26 (by decide) ?_
  refine z_lushr (pc := 27) F dJ13_bitCount_95d88_27 ?_
  refine z_ladd (pc := 28) F dJ13_bitCount_95d88_28 ?_
  refine z_ldc2 (pc := 29) F dJ13_bitCount_95d88_29 tw_494 ?_
  refine z_land (pc := 32) F dJ13_bitCount_95d88_32 ?_
  rw [show (((bc2 (bc1 x)) + (((bc2 (bc1 x)).toUInt64 >>> ((4 : Int32).toInt64.toUInt64 &&& Int64.toUInt64 63)).toInt64)) &&& 1085102592571150095) = bc3 (bc2 (bc1 x)) from rfl]
  refine z_lstore_n (pc := 33) (lv' := [(0, .long (bc3 (bc2 (bc1 x))))]) F dJ13_bitCount_95d88_33 rfl (by decide) [0] rfl ?_
  refine z_lload_n (pc := 34) F dJ13_bitCount_95d88_34 rfl 0 rfl ?_
  refine z_lload_n (pc := 35) F dJ13_bitCount_95d88_35 rfl 0 rfl ?_
  refine z_bipush (pc := 36) (v := 8) F dJ13_bitCount_95d88_36 (by decide) ?_
  refine z_lushr (pc := 38) F dJ13_bitCount_95d88_38 ?_
  refine z_ladd (pc := 39) F dJ13_bitCount_95d88_39 ?_
  rw [show ((bc3 (bc2 (bc1 x))) + (((bc3 (bc2 (bc1 x))).toUInt64 >>> ((8 : Int32).toInt64.toUInt64 &&& Int64.toUInt64 63)).toInt64)) = bc4 (bc3 (bc2 (bc1 x))) from rfl]
  refine z_lstore_n (pc := 40) (lv' := [(0, .long (bc4 (bc3 (bc2 (bc1 x)))))]) F dJ13_bitCount_95d88_40 rfl (by decide) [0] rfl ?_
  refine z_lload_n (pc := 41) F dJ13_bitCount_95d88_41 rfl 0 rfl ?_
  refine z_lload_n (pc := 42) F dJ13_bitCount_95d88_42 rfl 0 rfl ?_
  refine z_bipush (pc := 43) (v := 16) F dJ13_bitCount_95d88_43 (by decide) ?_
  refine z_lushr (pc := 45) F dJ13_bitCount_95d88_45 ?_
  refine z_ladd (pc := 46) F dJ13_bitCount_95d88_46 ?_
  rw [show ((bc4 (bc3 (bc2 (bc1 x)))) + (((bc4 (bc3 (bc2 (bc1 x)))).toUInt64 >>> ((16 : Int32).toInt64.toUInt64 &&& Int64.toUInt64 63)).toInt64)) = bc5 (bc4 (bc3 (bc2 (bc1 x)))) from rfl]
  refine z_lstore_n (pc := 47) (lv' := [(0, .long (bc5 (bc4 (bc3 (bc2 (bc1 x))))))]) F dJ13_bitCount_95d88_47 rfl (by decide) [0] rfl ?_
  refine z_lload_n (pc := 48) F dJ13_bitCount_95d88_48 rfl 0 rfl ?_
  refine z_lload_n (pc := 49) F dJ13_bitCount_95d88_49 rfl 0 rfl ?_
  refine z_bipush (pc := 50) (v := 32) F dJ13_bitCount_95d88_50 (by decide) ?_
  refine z_lushr (pc := 52) F dJ13_bitCount_95d88_52 ?_
  refine z_ladd (pc := 53) F dJ13_bitCount_95d88_53 ?_
  rw [show ((bc5 (bc4 (bc3 (bc2 (bc1 x))))) + (((bc5 (bc4 (bc3 (bc2 (bc1 x))))).toUInt64 >>> ((32 : Int32).toInt64.toUInt64 &&& Int64.toUInt64 63)).toInt64)) = bc6 (bc5 (bc4 (bc3 (bc2 (bc1 x))))) from rfl]
  refine z_lstore_n (pc := 54) (lv' := [(0, .long (bc6 (bc5 (bc4 (bc3 (bc2 (bc1 x)))))))]) F dJ13_bitCount_95d88_54 rfl (by decide) [0] rfl ?_
  refine z_lload_n (pc := 55) F dJ13_bitCount_95d88_55 rfl 0 rfl ?_
  refine z_l2i (pc := 56) F dJ13_bitCount_95d88_56 ?_
  refine z_bipush (pc := 57) (v := 127) F dJ13_bitCount_95d88_57 (by decide) ?_
  refine z_iand (pc := 59) F dJ13_bitCount_95d88_59 ?_
  exact z_iret (pc := 60) F hR dJ13_bitCount_95d88_60 (Nat.le_of_ble_eq_true rfl) (Nat.le_of_ble_eq_true rfl) ⟨rfl, rfl⟩

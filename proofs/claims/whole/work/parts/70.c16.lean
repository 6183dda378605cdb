set_option maxHeartbeats 4000000 in
set_option maxRecDepth 100000 in
theorem c_J13_bitCount_95d88 (l : Launch) (E : zE) (x : Int64) : Ct l yJ13_bitCount_95d88 cJ13_bitCount_95d88 2 (some .int) ({ frames := 0, cells := 0, slots := 0, locals := 0 } : Room) E ([]) [.long x] (fun v_ w_ => v_ = some (.int (nI (ctB (uN x).testBit 64))) ∧ w_ = []) := by
  refine Ct.ofF (by decide +kernel) (Nat.le_of_ble_eq_true rfl) (lv := [(0, .long x)]) rfl ?_
  intro X F hR
  have F : zF X l ({ frames := 0, cells := 0, slots := 0, locals := 0 } : Room) E cJ13_bitCount_95d88 2 "java/lang/Long" := F
  refine z_lload_n (pc := 0) F dJ13_bitCount_95d88_0 rfl 0 rfl ?_
  refine z_lload_n (pc := 1) F dJ13_bitCount_95d88_1 rfl 0 rfl ?_
  refine z_iconst (pc := 2) (v := 1) F dJ13_bitCount_95d88_2 (by decide) ?_
  refine z_lushr (pc := 3) F dJ13_bitCount_95d88_3 ?_
  refine z_ldc2 (pc := 4) F dJ13_bitCount_95d88_4 tw_492 ?_
  refine z_land (pc := 7) F dJ13_bitCount_95d88_7 ?_
  refine z_lsub (pc := 8) F dJ13_bitCount_95d88_8 ?_
  rw [show (x - (((x.toUInt64 >>> ((1 : Int32).toInt64.toUInt64 &&& Int64.toUInt64 63)).toInt64) &&& 6148914691236517205)) = bc1 x from rfl]
  refine z_lstore_n (pc := 9) (lv' := [(0, .long (bc1 x))]) F dJ13_bitCount_95d88_9 rfl (by decide) [0] rfl ?_
  refine z_lload_n (pc := 10) F dJ13_bitCount_95d88_10 rfl 0 rfl ?_
  refine z_ldc2 (pc := 11) F dJ13_bitCount_95d88_11 tw_493 ?_
  refine z_land (pc := 14) F dJ13_bitCount_95d88_14 ?_
  refine z_lload_n (pc := 15) F dJ13_bitCount_95d88_15 rfl 0 rfl ?_
  refine z_iconst (pc := 16) (v := 2) F dJ13_bitCount_95d88_16 (by decide) ?_
  refine z_lushr (pc := 17) F dJ13_bitCount_95d88_17 ?_
  refine z_ldc2 (pc := 18) F dJ13_bitCount_95d88_18 tw_493 ?_
  refine z_land (pc := 21) F dJ13_bitCount_95d88_21 ?_
  refine z_ladd (pc := 22) F dJ13_bitCount_95d88_22 ?_
  rw [show (((bc1 x) &&& 3689348814741910323) + ((((bc1 x).toUInt64 >>> ((2 : Int32).toInt64.toUInt64 &&& Int64.toUInt64 63)).toInt64) &&& 3689348814741910323)) = bc2 (bc1 x) from rfl]
  refine z_lstore_n (pc := 23) (lv' := [(0, .long (bc2 (bc1 x)))]) F dJ13_bitCount_95d88_23 rfl (by decide) [0] rfl ?_
  refine z_lload_n (pc := 24) F dJ13_bitCount_95d88_24 rfl 0 rfl ?_
  refine z_lload_n (pc := 25) F dJ13_bitCount_95d88_25 rfl 0 rfl ?_
  refine z_iconst (pc := 26) (v := 4) F dJ13_bitCount_95d88_26 (by decide) ?_
  refine z_lushr (pc := 27) F dJ13_bitCount_95d88_27 ?_
  refine z_ladd (pc := 28) F dJ13_bitCount_95d88_28 ?_
  refine z_ldc2 (pc := 29) F dJ13_bitCount_95d88_29 tw_494 ?_
  refine z_land (pc := 32) F dJ13_bitCount_95d88_32 ?_
  rw [show (((bc2 (bc1 x)) + (((bc2 (bc1 x)).toUInt64 >>> ((4 : Int32).toInt64.toUInt64 &&& Int64.toUInt64 63)).toInt64)) &&& 1085102592571150095) = bc3 (bc2 (bc1 x)) from rfl]
  refine z_lstore_n (pc := 33) (lv' := [(0, .long (bc3 (bc2 (bc1 x))))]) F dJ13_bitCount_95d88_33 rfl (by decide) [0] rfl ?_
  refine z_lload_n (pc := 34) F dJ13_bitCount_95d88_34 rfl 0 rfl ?_
  refine z_lload_n (pc := 35) F dJ13_bitCount_95d88_35 rfl 0 rfl ?_
  refine z_bipush (pc := 36) (v := 8) F dJ13_bitCount_95d88_36 (by decide) ?_
  refine z_lushr (pc := 38) F dJ13_bitCount_95d88_38 ?_
  refine z_ladd (pc := 39) F dJ13_bitCount_95d88_39 ?_
  rw [show ((bc3 (bc2 (bc1 x))) + (((bc3 (bc2 (bc1 x))).toUInt64 >>> ((8 : Int32).toInt64.toUInt64 &&& Int64.toUInt64 63)).toInt64)) = bc4 (bc3 (bc2 (bc1 x))) from rfl]
  refine z_lstore_n (pc := 40) (lv' := [(0, .long (bc4 (bc3 (bc2 (bc1 x)))))]) F dJ13_bitCount_95d88_40 rfl (by decide) [0] rfl ?_
  refine z_lload_n (pc := 41) F dJ13_bitCount_95d88_41 rfl 0 rfl ?_
  refine z_lload_n (pc := 42) F dJ13_bitCount_95d88_42 rfl 0 rfl ?_
  refine z_bipush (pc := 43) (v := 16) F dJ13_bitCount_95d88_43 (by decide) ?_
  refine z_lushr (pc := 45) F dJ13_bitCount_95d88_45 ?_
  refine z_ladd (pc := 46) F dJ13_bitCount_95d88_46 ?_
  rw [show ((bc4 (bc3 (bc2 (bc1 x)))) + (((bc4 (bc3 (bc2 (bc1 x)))).toUInt64 >>> ((16 : Int32).toInt64.toUInt64 &&& Int64.toUInt64 63)).toInt64)) = bc5 (bc4 (bc3 (bc2 (bc1 x)))) from rfl]
  refine z_lstore_n (pc := 47) (lv' := [(0, .long (bc5 (bc4 (bc3 (bc2 (bc1 x))))))]) F dJ13_bitCount_95d88_47 rfl (by decide) [0] rfl ?_
  refine z_lload_n (pc := 48) F dJ13_bitCount_95d88_48 rfl 0 rfl ?_
  refine z_lload_n (pc := 49) F dJ13_bitCount_95d88_49 rfl 0 rfl ?_
  refine z_bipush (pc := 50) (v := 32) F dJ13_bitCount_95d88_50 (by decide) ?_
  refine z_lushr (pc := 52) F dJ13_bitCount_95d88_52 ?_
  refine z_ladd (pc := 53) F dJ13_bitCount_95d88_53 ?_
  rw [show ((bc5 (bc4 (bc3 (bc2 (bc1 x))))) + (((bc5 (bc4 (bc3 (bc2 (bc1 x))))).toUInt64 >>> ((32 : Int32).toInt64.toUInt64 &&& Int64.toUInt64 63)).toInt64)) = bc6 (bc5 (bc4 (bc3 (bc2 (bc1 x))))) from rfl]
  refine z_lstore_n (pc := 54) (lv' := [(0, .long (bc6 (bc5 (bc4 (bc3 (bc2 (bc1 x)))))))]) F dJ13_bitCount_95d88_54 rfl (by decide) [0] rfl ?_
  refine z_lload_n (pc := 55) F dJ13_bitCount_95d88_55 rfl 0 rfl ?_
  refine z_l2i (pc := 56) F dJ13_bitCount_95d88_56 ?_
  refine z_bipush (pc := 57) (v := 127) F dJ13_bitCount_95d88_57 (by decide) ?_
  refine z_iand (pc := 59) F dJ13_bitCount_95d88_59 ?_
  exact z_iret (pc := 60) F hR dJ13_bitCount_95d88_60 (Nat.le_of_ble_eq_true rfl) (Nat.le_of_ble_eq_true rfl) ⟨by rw [← bc_ct]; rfl, rfl⟩
set_option maxHeartbeats 4000000 in
set_option maxRecDepth 100000 in
theorem c_X1_differenceCount (l : Launch) (E : zE) (r : Nat → Nat) (rp : Nat → Nat) (rg : Nat → Nat) (rs : Nat → Nat) (rw : Nat → Nat) (S : zS) (oc : Int32) (sh : Int64) (we : Int64) (ca : Int64) (hg : Nat → Int64) (inn : Nat → Int32) (ky : Nat → Int64) (gv : Nat → Int64) (am : Nat → Int64) (od : Nat → Int32) : Ct l yX1_differenceCount cX1_differenceCount 1 (some .int) ({ frames := 1, cells := 0, slots := 0, locals := 30 } : Room) E (kpw E r (rp 0) (rg 0) (rs 0) (rw 0) (mkp S oc sh we ca hg inn ky gv am od)) [.ref (r 0)] (fun v_ w_ => v_ = some (.int (nI (ctB (uN we).testBit 64 + ctB (uN ca).testBit 64))) ∧ w_ = kpw E r (rp 0) (rg 0) (rs 0) (rw 0) (mkp S oc sh we ca hg inn ky gv am od)) := by
  refine Ct.of (by decide) (Nat.le_of_ble_eq_true rfl) (lv := [(0, .ref (r 0))]) rfl ?_
  intro X F hR
  have F : zF X l ({ frames := 1, cells := 0, slots := 0, locals := 30 } : Room) E cX1_differenceCount 1 "LiveQueries$Kept" := F
  refine z_aload_n (pc := 0) F dX1_differenceCount_0 rfl 0 rfl ?_
  refine z_get (pc := 1) (v := .long we) F iX1 0 rfl rfl 12 (by decide) tw_275 rfl dX1_differenceCount_1 ?_
  refine z_callS0 (pc := 4) (rest := []) F (c_J13_bitCount_95d88 l E we) 1 ww_Kept_97 (by decide +kernel) rfl ⟨Nat.le_of_ble_eq_true rfl, Nat.le_of_ble_eq_true rfl⟩ ⟨Nat.le_of_ble_eq_true rfl, Nat.le_of_ble_eq_true rfl⟩ rfl (Nat.le_of_ble_eq_true rfl) dX1_differenceCount_4 (fun v_ w1_ hp => ?_)
  obtain ⟨rfl, rfl⟩ := hp
  show Z X (0) (0) (kpw E r (rp 0) (rg 0) (rs 0) (rw 0) (mkp S oc sh we ca hg inn ky gv am od)) [(0, .ref (r 0))] 7 [.int (nI (ctB (uN we).testBit 64))]
  refine z_aload_n (pc := 7) F dX1_differenceCount_7 rfl 0 rfl ?_
  refine z_get (pc := 8) (v := .long ca) F iX1 0 rfl rfl 13 (by decide) tw_276 rfl dX1_differenceCount_8 ?_
  refine z_callS0 (pc := 11) (rest := [.int (nI (ctB (uN we).testBit 64))]) F (c_J13_bitCount_95d88 l E ca) 1 ww_Kept_97 (by decide +kernel) rfl ⟨Nat.le_of_ble_eq_true rfl, Nat.le_of_ble_eq_true rfl⟩ ⟨Nat.le_of_ble_eq_true rfl, Nat.le_of_ble_eq_true rfl⟩ rfl (Nat.le_of_ble_eq_true rfl) dX1_differenceCount_11 (fun v_ w1_ hp => ?_)
  obtain ⟨rfl, rfl⟩ := hp
  show Z X (0) (0) (kpw E r (rp 0) (rg 0) (rs 0) (rw 0) (mkp S oc sh we ca hg inn ky gv am od)) [(0, .ref (r 0))] 14 [.int (nI (ctB (uN ca).testBit 64)), .int (nI (ctB (uN we).testBit 64))]
  refine z_iadd (pc := 14) F dX1_differenceCount_14 ?_
  rw [show ((nI (ctB (uN we).testBit 64)) + (nI (ctB (uN ca).testBit 64))) = nI (ctB (uN we).testBit 64 + ctB (uN ca).testBit 64) from (nI_add _ _)]
  exact z_iret (pc := 15) F hR dX1_differenceCount_15 (Nat.le_of_ble_eq_true rfl) (Nat.le_of_ble_eq_true rfl) ⟨rfl, rfl⟩
set_option maxHeartbeats 4000000 in
set_option maxRecDepth 100000 in
theorem c_X1_isArrival (l : Launch) (E : zE) (r : Nat → Nat) (rp : Nat → Nat) (rg : Nat → Nat) (rs : Nat → Nat) (rw : Nat → Nat) (S : zS) (oc : Int32) (sh : Int64) (we : Int64) (ca : Int64) (hg : Nat → Int64) (inn : Nat → Int32) (ky : Nat → Int64) (gv : Nat → Int64) (am : Nat → Int64) (od : Nat → Int32) (k : Nat) (hk : k < 2 ^ 31) : Ct l yX1_isArrival cX1_isArrival 2 (some .boolean) ({ frames := 1, cells := 0, slots := 0, locals := 30 } : Room) E (kpw E r (rp 0) (rg 0) (rs 0) (rw 0) (mkp S oc sh we ca hg inn ky gv am od)) [.ref (r 0), .int (nI k)] (fun v_ w_ => v_ = some (.int (bI (decide (ctB (uN we).testBit 64 ≤ k)))) ∧ w_ = kpw E r (rp 0) (rg 0) (rs 0) (rw 0) (mkp S oc sh we ca hg inn ky gv am od)) := by
  refine Ct.of (by decide) (Nat.le_of_ble_eq_true rfl) (lv := [(0, .ref (r 0)), (1, .int (nI k))]) rfl ?_
  intro X F hR
  have F : zF X l ({ frames := 1, cells := 0, slots := 0, locals := 30 } : Room) E cX1_isArrival 2 "LiveQueries$Kept" := F
  have hcb := ctB_le (uN we).testBit 64
  refine z_iload_n (pc := 0) F dX1_isArrival_0 rfl 1 rfl ?_
  refine z_aload_n (pc := 1) F dX1_isArrival_1 rfl 0 rfl ?_
  refine z_get (pc := 2) (v := .long we) F iX1 0 rfl rfl 12 (by decide) tw_275 rfl dX1_isArrival_2 ?_
  refine z_callS0 (pc := 5) (rest := [.int (nI k)]) F (c_J13_bitCount_95d88 l E we) 1 ww_Kept_97 (by decide +kernel) rfl ⟨Nat.le_of_ble_eq_true rfl, Nat.le_of_ble_eq_true rfl⟩ ⟨Nat.le_of_ble_eq_true rfl, Nat.le_of_ble_eq_true rfl⟩ rfl (Nat.le_of_ble_eq_true rfl) dX1_isArrival_5 (fun v_ w1_ hp => ?_)
  obtain ⟨rfl, rfl⟩ := hp
  show Z X (0) (0) (kpw E r (rp 0) (rg 0) (rs 0) (rw 0) (mkp S oc sh we ca hg inn ky gv am od)) [(0, .ref (r 0)), (1, .int (nI k))] 8 [.int (nI (ctB (uN we).testBit 64)), .int (nI k)]
  refine z_icmp_lt (pc := 8) (tgt := 15) F dX1_isArrival_8 (by decide) (fun c8 => ?_) (fun c8 => ?_)
  · have k8 := (nI_ltI hk (by omega)).mp c8
    refine z_iconst (pc := 15) (v := 0) F dX1_isArrival_15 (by decide) ?_
    exact z_zret (pc := 16) F hR rfl dX1_isArrival_16 (Nat.le_of_ble_eq_true rfl) (Nat.le_of_ble_eq_true rfl) ⟨by rw [decide_eq_false (by omega)]; rfl, rfl⟩
  · have k8 : ¬ k < ctB (uN we).testBit 64 := fun h => c8 (nI_lt h (by omega))
    refine z_iconst (pc := 11) (v := 1) F dX1_isArrival_11 (by decide) ?_
    refine z_goto (pc := 12) (tgt := 16) F dX1_isArrival_12 (by decide) ?_
    exact z_zret (pc := 16) F hR rfl dX1_isArrival_16 (Nat.le_of_ble_eq_true rfl) (Nat.le_of_ble_eq_true rfl) ⟨by rw [decide_eq_true (by omega)]; rfl, rfl⟩
set_option maxHeartbeats 4000000 in
set_option maxRecDepth 100000 in
theorem c_X1_differenceObject (l : Launch) (E : zE) (r : Nat → Nat) (rp : Nat → Nat) (rg : Nat → Nat) (rs : Nat → Nat) (rw : Nat → Nat) (S : zS) (oc : Int32) (sh : Int64) (we : Int64) (ca : Int64) (hg : Nat → Int64) (inn : Nat → Int32) (ky : Nat → Int64) (gv : Nat → Int64) (am : Nat → Int64) (od : Nat → Int32) (k : Nat) (hk : k < 2 ^ 31) : Ct l yX1_differenceObject cX1_differenceObject 2 (some .int) ({ frames := 2, cells := 0, slots := 0, locals := 60 } : Room) E (kpw E r (rp 0) (rg 0) (rs 0) (rw 0) (mkp S oc sh we ca hg inn ky gv am od)) [.ref (r 0), .int (nI k)] (fun v_ w_ => v_ = some (.int (oI (if ctB (uN we).testBit 64 ≤ k then btA (bitL ca) (k - ctB (uN we).testBit 64) 60 0 else btA (bitL we) k 60 0))) ∧ w_ = kpw E r (rp 0) (rg 0) (rs 0) (rw 0) (mkp S oc sh we ca hg inn ky gv am od)) := by
  refine Ct.of (by decide) (Nat.le_of_ble_eq_true rfl) (lv := [(0, .ref (r 0)), (1, .int (nI k))]) rfl ?_
  intro X F hR
  have F : zF X l ({ frames := 2, cells := 0, slots := 0, locals := 60 } : Room) E cX1_differenceObject 2 "LiveQueries$Kept" := F
  have hcb := ctB_le (uN we).testBit 64
  refine z_aload_n (pc := 0) F dX1_differenceObject_0 rfl 0 rfl ?_
  refine z_iload_n (pc := 1) F dX1_differenceObject_1 rfl 1 rfl ?_
  refine z_callVW (pc := 2) (q0 := 0) (ci := 1) (rest := []) F (c_X1_isArrival l E r _ _ _ _ S oc sh we ca hg inn ky gv am od k hk) 1 ww_Kept_103 (by decide +kernel) rfl ⟨Nat.le_of_ble_eq_true rfl, Nat.le_of_ble_eq_true rfl⟩ ⟨Nat.le_of_ble_eq_true rfl, Nat.le_of_ble_eq_true rfl⟩ rfl rfl rfl rfl (Nat.le_of_ble_eq_true rfl) dX1_differenceObject_2 (fun v_ w1_ hp => ?_)
  obtain ⟨rfl, rfl⟩ := hp
  show Z X (0) (0) (kpw E r (rp 0) (rg 0) (rs 0) (rw 0) (mkp S oc sh we ca hg inn ky gv am od)) [(0, .ref (r 0)), (1, .int (nI k))] 5 [.int (bI (decide (ctB (uN we).testBit 64 ≤ k)))]
  refine z_if_eq (pc := 5) (tgt := 27) F dX1_differenceObject_5 (by decide) (fun c5 => ?_) (fun c5 => ?_)
  · replace c5 := bI_f c5
    have c5 := of_decide_eq_false c5
    refine z_aload_n (pc := 27) F dX1_differenceObject_27 rfl 0 rfl ?_
    refine z_get (pc := 28) (v := .long we) F iX1 0 rfl rfl 12 (by decide) tw_275 rfl dX1_differenceObject_28 ?_
    refine z_iload_n (pc := 31) F dX1_differenceObject_31 rfl 1 rfl ?_
    refine z_callS0 (pc := 32) (rest := []) F (c_X1_bitAt l E we k hk) 2 ww_Kept_107 (by decide +kernel) rfl ⟨Nat.le_of_ble_eq_true rfl, Nat.le_of_ble_eq_true rfl⟩ ⟨Nat.le_of_ble_eq_true rfl, Nat.le_of_ble_eq_true rfl⟩ rfl (Nat.le_of_ble_eq_true rfl) dX1_differenceObject_32 (fun v_ w1_ hp => ?_)
    obtain ⟨rfl, rfl⟩ := hp
    show Z X (0) (0) (kpw E r (rp 0) (rg 0) (rs 0) (rw 0) (mkp S oc sh we ca hg inn ky gv am od)) [(0, .ref (r 0)), (1, .int (nI k))] 35 [.int (oI (btA (bitL we) k 60 0))]
    exact z_iret (pc := 35) F hR dX1_differenceObject_35 (Nat.le_of_ble_eq_true rfl) (Nat.le_of_ble_eq_true rfl) ⟨by first | rw [if_pos c5] | rw [if_neg c5], rfl⟩
  · replace c5 := bI_t c5
    have c5 := of_decide_eq_true c5
    refine z_aload_n (pc := 8) F dX1_differenceObject_8 rfl 0 rfl ?_
    refine z_get (pc := 9) (v := .long ca) F iX1 0 rfl rfl 13 (by decide) tw_276 rfl dX1_differenceObject_9 ?_
    refine z_iload_n (pc := 12) F dX1_differenceObject_12 rfl 1 rfl ?_
    refine z_aload_n (pc := 13) F dX1_differenceObject_13 rfl 0 rfl ?_
    refine z_get (pc := 14) (v := .long we) F iX1 0 rfl rfl 12 (by decide) tw_275 rfl dX1_differenceObject_14 ?_
    refine z_callS0 (pc := 17) (rest := [.int (nI k), .long ca]) F (c_J13_bitCount_95d88 l E we) 1 ww_Kept_97 (by decide +kernel) rfl ⟨Nat.le_of_ble_eq_true rfl, Nat.le_of_ble_eq_true rfl⟩ ⟨Nat.le_of_ble_eq_true rfl, Nat.le_of_ble_eq_true rfl⟩ rfl (Nat.le_of_ble_eq_true rfl) dX1_differenceObject_17 (fun v_ w1_ hp => ?_)
    obtain ⟨rfl, rfl⟩ := hp
    show Z X (0) (0) (kpw E r (rp 0) (rg 0) (rs 0) (rw 0) (mkp S oc sh we ca hg inn ky gv am od)) [(0, .ref (r 0)), (1, .int (nI k))] 20 [.int (nI (ctB (uN we).testBit 64)), .int (nI k), .long ca]
    refine z_isub (pc := 20) F dX1_differenceObject_20 ?_
    rw [show ((nI k) - (nI (ctB (uN we).testBit 64))) = nI (k - ctB (uN we).testBit 64) from (pk_sub c5)]
    refine z_callS0 (pc := 21) (rest := []) F (c_X1_bitAt l E ca (k - ctB (uN we).testBit 64) (by omega)) 2 ww_Kept_107 (by decide +kernel) rfl ⟨Nat.le_of_ble_eq_true rfl, Nat.le_of_ble_eq_true rfl⟩ ⟨Nat.le_of_ble_eq_true rfl, Nat.le_of_ble_eq_true rfl⟩ rfl (Nat.le_of_ble_eq_true rfl) dX1_differenceObject_21 (fun v_ w1_ hp => ?_)
    obtain ⟨rfl, rfl⟩ := hp
    show Z X (0) (0) (kpw E r (rp 0) (rg 0) (rs 0) (rw 0) (mkp S oc sh we ca hg inn ky gv am od)) [(0, .ref (r 0)), (1, .int (nI k))] 24 [.int (oI (btA (bitL ca) (k - ctB (uN we).testBit 64) 60 0))]
    refine z_goto (pc := 24) (tgt := 35) F dX1_differenceObject_24 (by decide) ?_
    exact z_iret (pc := 35) F hR dX1_differenceObject_35 (Nat.le_of_ble_eq_true rfl) (Nat.le_of_ble_eq_true rfl) ⟨by first | rw [if_pos c5] | rw [if_neg c5], rfl⟩
set_option maxHeartbeats 4000000 in
set_option maxRecDepth 100000 in
theorem c_X1_takeOut (l : Launch) (E : zE) (r : Nat → Nat) (rp : Nat → Nat) (rg : Nat → Nat) (rs : Nat → Nat) (rw : Nat → Nat) (S : zS) (sh : Int64) (we : Int64) (ca : Int64) (hg : Nat → Int64) (inn : Nat → Int32) (ky : Nat → Int64) (gv : Nat → Int64) (am : Nat → Int64) (od : Nat → Int32) (ord : List Nat) (SG : zS) (L : List zRow) (o : Nat) (gk : Nat) (gy : zRow) (gc : Nat) (ho : hoO ord od) (hl : ord.length ≤ 60) (hlt : ∀ (i x : Nat), ord[i]? = some x → x < 60) (hL : L.length ≤ 60) (hgc : zi SG 0 = nI L.length) (hgh : hoR L (za SG 2) (zb SG 1) (zb SG 3) (zb SG 4)) (ho6 : o < 60) (hgs : srG L) (hgy : L[gk]? = some gy) (hgv : gy.2.1 = gv o) (hgn : gy.1 = gc + 1) (hg3 : gc < 2 ^ 31) : Ct l yX1_takeOut cX1_takeOut 4 (none) ({ frames := 3, cells := 0, slots := 0, locals := 100 } : Room) E (kpw E r (rp 0) (rg 0) (rs 0) (rw 0) (mkp S (nI ord.length) sh we ca hg inn ky gv am od) ++ grw E rg SG) [.ref (r 0), .int (nI o)] (fun v_ w_ => ∃ od' : Nat → Int32, ∃ va2 : Nat → Int64, ∃ mn2 : Nat → Int32, ∃ lo2 : Nat → Int64, ∃ hi2 : Nat → Int64, v_ = none ∧ w_ = kpw E r (rp 0) (rg 0) (rs 0) (rw 0) (mkp S (nI (ord.filter (fun x => decide (¬ x = o))).length) sh we ca hg (upd inn o 0) ky gv am od') ++ grw E rg (mgv SG (nI (subG gk (am o) gy L).length) va2 mn2 lo2 hi2) ∧ (hoO (ord.filter (fun x => decide (¬ x = o))) od') ∧ (hoR (subG gk (am o) gy L) mn2 va2 lo2 hi2)) := by
  refine Ct.of (by decide) (Nat.le_of_ble_eq_true rfl) (lv := [(0, .ref (r 0)), (1, .int (nI o))]) rfl ?_
  intro X F hR
  have F : zF X l ({ frames := 3, cells := 0, slots := 0, locals := 100 } : Room) E cX1_takeOut 4 "LiveQueries$Kept" := F
  refine z_iconst (pc := 0) (v := 0) F dX1_takeOut_0 (by decide) ?_
  refine z_istore_n (pc := 1) (lv' := [(0, .ref (r 0)), (1, .int (nI o)), (2, .int 0)]) F dX1_takeOut_1 rfl (by decide) [1, 2, 0] rfl ?_
  refine z_iconst (pc := 2) (v := 0) F dX1_takeOut_2 (by decide) ?_
  refine z_istore_n (pc := 3) (lv' := [(0, .ref (r 0)), (1, .int (nI o)), (2, .int 0), (3, .int 0)]) F dX1_takeOut_3 rfl (by decide) [1, 2, 3, 0] rfl ?_
  have L4 : ∀ (N : Nat) (i : Nat) (od' : Nat → Int32), (ord.length - i) < N → (i ≤ ord.length) → (tkO ord o i od') → Z X (0) (0) (kpw E r (rp 0) (rg 0) (rs 0) (rw 0) (mkp S (nI ord.length) sh we ca hg inn ky gv am od') ++ grw E rg SG) [(0, .ref (r 0)), (1, .int (nI o)), (2, .int (nI ((ord.take i).filter (fun x => decide (¬ x = o))).length)), (3, .int (nI i))] 4 [] := by
    intro N
    induction N with
    | zero => intro i od' hN; exact absurd hN (Nat.not_lt_zero _)
    | succ N ih4 =>
      intro i od' hN hi hT
      refine z_iload_n (pc := 4) F dX1_takeOut_4 rfl 3 rfl ?_
      refine z_aload_n (pc := 5) F dX1_takeOut_5 rfl 0 rfl ?_
      refine z_get (pc := 6) (v := .int (nI ord.length)) F iX1 0 rfl rfl 10 (by decide) tw_273 rfl dX1_takeOut_6 ?_
      refine z_icmp_ge (pc := 9) (tgt := 43) F dX1_takeOut_9 (by decide) (fun c9 => ?_) (fun c9 => ?_)
      · have hie : i = ord.length := Nat.le_antisymm hi (gI (by omega) (by omega) c9)
        rw [hie, tkO, List.take_length] at hT
        rw [hie, List.take_length]
        refine z_aload_n (pc := 43) F dX1_takeOut_43 rfl 0 rfl ?_
        refine z_iload_n (pc := 44) F dX1_takeOut_44 rfl 2 rfl ?_
        refine z_put (pc := 45) (ws' := kpw E r (rp 0) (rg 0) (rs 0) (rw 0) (mkp S (nI (ord.filter (fun x => decide (¬ x = o))).length) sh we ca hg inn ky gv am od') ++ grw E rg SG) F iX1 tyX1 tyX1_ok nmX1 0 rfl rfl 10 (by decide) tw_273 rfl rfl rfl (Nat.le_of_ble_eq_true rfl) dX1_takeOut_45 rfl ?_
        refine z_aload_n (pc := 48) F dX1_takeOut_48 rfl 0 rfl ?_
        refine z_get (pc := 49) (v := .ref (r 2)) F iX1 0 rfl rfl 5 (by decide) tw_268 rfl dX1_takeOut_49 ?_
        refine z_iload_n (pc := 52) F dX1_takeOut_52 rfl 1 rfl ?_
        refine z_iconst (pc := 53) (v := 0) F dX1_takeOut_53 (by decide) ?_
        refine z_zastN (pc := 54) (ws' := kpw E r (rp 0) (rg 0) (rs 0) (rw 0) (mkp S (nI (ord.filter (fun x => decide (¬ x = o))).length) sh we ca hg (upd inn o 0) ky gv am od') ++ grw E rg SG) (f := inn) F 2 2 rfl rfl o rfl (by omega) (by decide) rfl dX1_takeOut_54 rfl ?_
        refine z_aload_n (pc := 55) F dX1_takeOut_55 rfl 0 rfl ?_
        refine z_get (pc := 56) (v := .ref (rg 0)) F iX1 0 rfl rfl 1 (by decide) tw_263 rfl dX1_takeOut_56 ?_
        refine z_aload_n (pc := 59) F dX1_takeOut_59 rfl 0 rfl ?_
        refine z_get (pc := 60) (v := .ref (r 4)) F iX1 0 rfl rfl 7 (by decide) tw_270 rfl dX1_takeOut_60 ?_
        refine z_iload_n (pc := 63) F dX1_takeOut_63 rfl 1 rfl ?_
        refine z_laldN (pc := 64) (f := gv) F 4 1 rfl rfl o rfl (by omega) (by decide) dX1_takeOut_64 ?_
        refine z_aload_n (pc := 65) F dX1_takeOut_65 rfl 0 rfl ?_
        refine z_get (pc := 66) (v := .ref (r 5)) F iX1 0 rfl rfl 8 (by decide) tw_271 rfl dX1_takeOut_66 ?_
        refine z_iload_n (pc := 69) F dX1_takeOut_69 rfl 1 rfl ?_
        refine z_laldN (pc := 70) (f := am) F 5 1 rfl rfl o rfl (by omega) (by decide) dX1_takeOut_70 ?_
        refine z_callV (pc := 71) (q0 := 7) (ci := 0) (wr := kpw E r (rp 0) (rg 0) (rs 0) (rw 0) (mkp S (nI (ord.filter (fun x => decide (¬ x = o))).length) sh we ca hg (upd inn o 0) ky gv am od')) (rest := []) F (c_X0_subtract l E rg SG L ((gv) o) ((am) o) gk gy gc hL hgs hgy hgv hgn hg3 hgc hgh) 2 [7, 8, 9, 10, 11] [0, 1, 2, 3, 4, 5, 6] rfl rfl ⟨by decide, by decide, by decide⟩ ww_Kept_162 (by decide +kernel) rfl ⟨Nat.le_of_ble_eq_true rfl, Nat.le_of_ble_eq_true rfl⟩ ⟨Nat.le_of_ble_eq_true rfl, Nat.le_of_ble_eq_true rfl⟩ rfl rfl rfl rfl (Nat.le_of_ble_eq_true rfl) dX1_takeOut_71 (fun v_ w1_ hp => ?_)
        obtain ⟨va2, mn2, lo2, hi2, rfl, rfl, hgr⟩ := hp
        show Z X (0) (0) (kpw E r (rp 0) (rg 0) (rs 0) (rw 0) (mkp S (nI (ord.filter (fun x => decide (¬ x = o))).length) sh we ca hg (upd inn o 0) ky gv am od') ++ grw E rg (mgv SG (nI (subG gk ((am) o) gy L).length) va2 mn2 lo2 hi2)) [(0, .ref (r 0)), (1, .int (nI o)), (2, .int (nI (ord.filter (fun x => decide (¬ x = o))).length)), (3, .int (nI ord.length))] 74 []
        exact z_vret (pc := 74) F hR dX1_takeOut_74 (Nat.le_of_ble_eq_true rfl) (Nat.le_of_ble_eq_true rfl) ⟨od', va2, mn2, lo2, hi2, rfl, rfl, hT.1, hgr⟩
      · have hil := ngI (by omega) (by omega) c9
        obtain ⟨x, hx⟩ := at_of hil
        have hx6 := hlt i x hx
        have hfl := fi_le ord o i
        refine z_aload_n (pc := 12) F dX1_takeOut_12 rfl 0 rfl ?_
        refine z_get (pc := 13) (v := .ref (r 6)) F iX1 0 rfl rfl 9 (by decide) tw_272 rfl dX1_takeOut_13 ?_
        refine z_iload_n (pc := 16) F dX1_takeOut_16 rfl 3 rfl ?_
        refine z_ialdN (pc := 17) (f := od') F 6 0 rfl rfl i rfl (by omega) (by decide) dX1_takeOut_17 ?_
        rw [show ((od') i) = nI x from (hT.2 i x (Nat.le_refl _) hx)]
        refine z_iload_n (pc := 18) F dX1_takeOut_18 rfl 1 rfl ?_
        refine z_icmp_eq (pc := 19) (tgt := 37) F dX1_takeOut_19 (by decide) (fun c19 => ?_) (fun c19 => ?_)
        · have k19 : x = o := nIe (by omega) (by omega) c19
          refine z_iinc (pc := 37) (v := nI (i + 1)) (lv' := [(0, .ref (r 0)), (1, .int (nI o)), (2, .int (nI ((ord.take i).filter (fun x => decide (¬ x = o))).length)), (3, .int (nI (i + 1)))]) F (j := 3) dX1_takeOut_37 rfl (nI_1 _) (by decide) [1, 2, 3, 0] rfl ?_
          refine z_goto (pc := 40) (tgt := 4) F dX1_takeOut_40 (by decide) ?_
          have hih := ih4 (i + 1) _ (by omega) (by omega) (tkO_n hT hx k19); rw [fi_s hx, if_pos k19, List.append_nil] at hih; exact hih
        · have k19 : ¬ x = o := fun h => c19 (by rw [h])
          refine z_aload_n (pc := 22) F dX1_takeOut_22 rfl 0 rfl ?_
          refine z_get (pc := 23) (v := .ref (r 6)) F iX1 0 rfl rfl 9 (by decide) tw_272 rfl dX1_takeOut_23 ?_
          refine z_iload_n (pc := 26) F dX1_takeOut_26 rfl 2 rfl ?_
          refine z_aload_n (pc := 27) F dX1_takeOut_27 rfl 0 rfl ?_
          refine z_get (pc := 28) (v := .ref (r 6)) F iX1 0 rfl rfl 9 (by decide) tw_272 rfl dX1_takeOut_28 ?_
          refine z_iload_n (pc := 31) F dX1_takeOut_31 rfl 3 rfl ?_
          refine z_ialdN (pc := 32) (f := od') F 6 0 rfl rfl i rfl (by omega) (by decide) dX1_takeOut_32 ?_
          rw [show ((od') i) = nI x from (hT.2 i x (Nat.le_refl _) hx)]
          refine z_iastN (pc := 33) (ws' := kpw E r (rp 0) (rg 0) (rs 0) (rw 0) (mkp S (nI ord.length) sh we ca hg inn ky gv am (upd od' (((ord.take i).filter (fun x => decide (¬ x = o))).length) (nI x))) ++ grw E rg SG) (f := od') F 6 0 rfl rfl (((ord.take i).filter (fun x => decide (¬ x = o))).length) rfl (by omega) (by decide) dX1_takeOut_33 rfl ?_
          refine z_iinc (pc := 34) (v := nI (((ord.take i).filter (fun x => decide (¬ x = o))).length + 1)) (lv' := [(0, .ref (r 0)), (1, .int (nI o)), (2, .int (nI (((ord.take i).filter (fun x => decide (¬ x = o))).length + 1))), (3, .int (nI i))]) F (j := 2) dX1_takeOut_34 rfl (nI_1 _) (by decide) [1, 2, 0, 3] rfl ?_
          refine z_iinc (pc := 37) (v := nI (i + 1)) (lv' := [(0, .ref (r 0)), (1, .int (nI o)), (2, .int (nI (((ord.take i).filter (fun x => decide (¬ x = o))).length + 1))), (3, .int (nI (i + 1)))]) F (j := 3) dX1_takeOut_37 rfl (nI_1 _) (by decide) [1, 2, 3, 0] rfl ?_
          refine z_goto (pc := 40) (tgt := 4) F dX1_takeOut_40 (by decide) ?_
          have hih := ih4 (i + 1) _ (by omega) (by omega) (tkO_y hT hx k19); rw [fi_s hx, if_neg k19, List.length_append, List.length_singleton] at hih; exact hih
  exact L4 _ 0 od (Nat.lt_succ_self _) (Nat.zero_le _) (tkO_0 ho)
set_option maxHeartbeats 4000000 in
set_option maxRecDepth 100000 in
theorem c_X1_bringIn (l : Launch) (E : zE) (r : Nat → Nat) (rp : Nat → Nat) (rg : Nat → Nat) (rs : Nat → Nat) (rw : Nat → Nat) (S : zS) (sh : Int64) (we : Int64) (ca : Int64) (hg : Nat → Int64) (inn : Nat → Int32) (ky : Nat → Int64) (gv : Nat → Int64) (am : Nat → Int64) (od : Nat → Int32) (ord : List Nat) (SG : zS) (L : List zRow) (o : Nat) (ho : hoO ord od) (hl : ord.length < 60) (hlt : ∀ (i x : Nat), ord[i]? = some x → x < 60) (hL : L.length ≤ 60) (hgc : zi SG 0 = nI L.length) (hgh : hoR L (za SG 2) (zb SG 1) (zb SG 3) (zb SG 4)) (ho6 : o < 60) (hroom : (addG (gv o) (am o) L).length ≤ 60) : Ct l yX1_bringIn cX1_bringIn 3 (none) ({ frames := 3, cells := 0, slots := 0, locals := 100 } : Room) E (kpw E r (rp 0) (rg 0) (rs 0) (rw 0) (mkp S (nI ord.length) sh we ca hg inn ky gv am od) ++ grw E rg SG) [.ref (r 0), .int (nI o)] (fun v_ w_ => ∃ k : Nat, ∃ od' : Nat → Int32, ∃ va2 : Nat → Int64, ∃ mn2 : Nat → Int32, ∃ lo2 : Nat → Int64, ∃ hi2 : Nat → Int64, v_ = none ∧ w_ = kpw E r (rp 0) (rg 0) (rs 0) (rw 0) (mkp S (nI (ord.length + 1)) sh we ca hg (upd inn o 1) ky gv am od') ++ grw E rg (mgv SG (nI (addG (gv o) (am o) L).length) va2 mn2 lo2 hi2) ∧ (hoO (ord.take k ++ o :: ord.drop k) od') ∧ (k ≤ ord.length ∧ (∀ (j y : Nat), ord[j]? = some y → k ≤ j → bfB ky o y = true) ∧ (∀ (j y : Nat), ord[j]? = some y → j + 1 = k → bfB ky o y = false)) ∧ (hoR (addG (gv o) (am o) L) mn2 va2 lo2 hi2)) := by
  refine Ct.of (by decide) (Nat.le_of_ble_eq_true rfl) (lv := [(0, .ref (r 0)), (1, .int (nI o))]) rfl ?_
  intro X F hR
  have F : zF X l ({ frames := 3, cells := 0, slots := 0, locals := 100 } : Room) E cX1_bringIn 3 "LiveQueries$Kept" := F
  refine z_aload_n (pc := 0) F dX1_bringIn_0 rfl 0 rfl ?_
  refine z_get (pc := 1) (v := .int (nI ord.length)) F iX1 0 rfl rfl 10 (by decide) tw_273 rfl dX1_bringIn_1 ?_
  refine z_bipush (pc := 4) (v := 60) F dX1_bringIn_4 (by decide) ?_
  refine z_icmp_lt (pc := 6) (tgt := 10) F dX1_bringIn_6 (by decide) (fun c6 => ?_) (fun c6 => absurd (nI_lt (b := 60) hl (by decide)) c6)
  refine z_aload_n (pc := 10) F dX1_bringIn_10 rfl 0 rfl ?_
  refine z_get (pc := 11) (v := .int (nI ord.length)) F iX1 0 rfl rfl 10 (by decide) tw_273 rfl dX1_bringIn_11 ?_
  refine z_istore_n (pc := 14) (lv' := [(0, .ref (r 0)), (1, .int (nI o)), (2, .int (nI ord.length))]) F dX1_bringIn_14 rfl (by decide) [1, 2, 0] rfl ?_
  have L15 : ∀ (N : Nat) (k : Nat) (od' : Nat → Int32), k < N → (k ≤ ord.length) → (shO ord k od') → (∀ (j y : Nat), ord[j]? = some y → k ≤ j → bfB ky o y = true) → Z X (0) (0) (kpw E r (rp 0) (rg 0) (rs 0) (rw 0) (mkp S (nI ord.length) sh we ca hg inn ky gv am od') ++ grw E rg SG) [(0, .ref (r 0)), (1, .int (nI o)), (2, .int (nI k))] 15 [] := by
    intro N
    induction N with
    | zero => intro k od' hN; exact absurd hN (Nat.not_lt_zero _)
    | succ N ih15 =>
      intro k od' hN hk hS hgt
      refine z_iload_n (pc := 15) F dX1_bringIn_15 rfl 2 rfl ?_
      refine z_if_le (pc := 16) (tgt := 55) F dX1_bringIn_16 (by decide) (fun c16 => ?_) (fun c16 => ?_)
      · have hk0 := nI_le0 (by omega) c16
        subst hk0
        have hf0 : ∀ (j y : Nat), ord[j]? = some y → j + 1 = 0 → bfB ky o y = false := fun j y _ h => absurd h (by omega)
        refine z_aload_n (pc := 55) F dX1_bringIn_55 rfl 0 rfl ?_
        refine z_get (pc := 56) (v := .ref (r 6)) F iX1 0 rfl rfl 9 (by decide) tw_272 rfl dX1_bringIn_56 ?_
        refine z_iload_n (pc := 59) F dX1_bringIn_59 rfl 2 rfl ?_
        refine z_iload_n (pc := 60) F dX1_bringIn_60 rfl 1 rfl ?_
        refine z_iastN (pc := 61) (ws' := kpw E r (rp 0) (rg 0) (rs 0) (rw 0) (mkp S (nI ord.length) sh we ca hg inn ky gv am (upd od' 0 (nI o))) ++ grw E rg SG) (f := od') F 6 0 rfl rfl 0 rfl (by omega) (by decide) dX1_bringIn_61 rfl ?_
        refine z_aload_n (pc := 62) F dX1_bringIn_62 rfl 0 rfl ?_
        refine z_dup (pc := 63) F dX1_bringIn_63 rfl ?_
        refine z_get (pc := 64) (v := .int (nI ord.length)) F iX1 0 rfl rfl 10 (by decide) tw_273 rfl dX1_bringIn_64 ?_
        refine z_iconst (pc := 67) (v := 1) F dX1_bringIn_67 (by decide) ?_
        refine z_iadd (pc := 68) F dX1_bringIn_68 ?_
        rw [show ((nI ord.length) + 1) = nI (ord.length + 1) from (nI_1 _)]
        refine z_put (pc := 69) (ws' := kpw E r (rp 0) (rg 0) (rs 0) (rw 0) (mkp S (nI (ord.length + 1)) sh we ca hg inn ky gv am (upd od' 0 (nI o))) ++ grw E rg SG) F iX1 tyX1 tyX1_ok nmX1 0 rfl rfl 10 (by decide) tw_273 rfl rfl rfl (Nat.le_of_ble_eq_true rfl) dX1_bringIn_69 rfl ?_
        refine z_aload_n (pc := 72) F dX1_bringIn_72 rfl 0 rfl ?_
        refine z_get (pc := 73) (v := .ref (r 2)) F iX1 0 rfl rfl 5 (by decide) tw_268 rfl dX1_bringIn_73 ?_
        refine z_iload_n (pc := 76) F dX1_bringIn_76 rfl 1 rfl ?_
        refine z_iconst (pc := 77) (v := 1) F dX1_bringIn_77 (by decide) ?_
        refine z_zastN (pc := 78) (ws' := kpw E r (rp 0) (rg 0) (rs 0) (rw 0) (mkp S (nI (ord.length + 1)) sh we ca hg (upd inn o 1) ky gv am (upd od' 0 (nI o))) ++ grw E rg SG) (f := inn) F 2 2 rfl rfl o rfl (by omega) (by decide) rfl dX1_bringIn_78 rfl ?_
        refine z_aload_n (pc := 79) F dX1_bringIn_79 rfl 0 rfl ?_
        refine z_get (pc := 80) (v := .ref (rg 0)) F iX1 0 rfl rfl 1 (by decide) tw_263 rfl dX1_bringIn_80 ?_
        refine z_aload_n (pc := 83) F dX1_bringIn_83 rfl 0 rfl ?_
        refine z_get (pc := 84) (v := .ref (r 4)) F iX1 0 rfl rfl 7 (by decide) tw_270 rfl dX1_bringIn_84 ?_
        refine z_iload_n (pc := 87) F dX1_bringIn_87 rfl 1 rfl ?_
        refine z_laldN (pc := 88) (f := gv) F 4 1 rfl rfl o rfl (by omega) (by decide) dX1_bringIn_88 ?_
        refine z_aload_n (pc := 89) F dX1_bringIn_89 rfl 0 rfl ?_
        refine z_get (pc := 90) (v := .ref (r 5)) F iX1 0 rfl rfl 8 (by decide) tw_271 rfl dX1_bringIn_90 ?_
        refine z_iload_n (pc := 93) F dX1_bringIn_93 rfl 1 rfl ?_
        refine z_laldN (pc := 94) (f := am) F 5 1 rfl rfl o rfl (by omega) (by decide) dX1_bringIn_94 ?_
        refine z_callV (pc := 95) (q0 := 7) (ci := 0) (wr := kpw E r (rp 0) (rg 0) (rs 0) (rw 0) (mkp S (nI (ord.length + 1)) sh we ca hg (upd inn o 1) ky gv am (upd od' 0 (nI o)))) (rest := []) F (c_X0_add l E rg SG L ((gv) o) ((am) o) hL hroom hgc hgh) 2 [7, 8, 9, 10, 11] [0, 1, 2, 3, 4, 5, 6] rfl rfl ⟨by decide, by decide, by decide⟩ ww_Kept_158 (by decide +kernel) rfl ⟨Nat.le_of_ble_eq_true rfl, Nat.le_of_ble_eq_true rfl⟩ ⟨Nat.le_of_ble_eq_true rfl, Nat.le_of_ble_eq_true rfl⟩ rfl rfl rfl rfl (Nat.le_of_ble_eq_true rfl) dX1_bringIn_95 (fun v_ w1_ hp => ?_)
        obtain ⟨va2, mn2, lo2, hi2, rfl, rfl, hgr⟩ := hp
        show Z X (0) (0) (kpw E r (rp 0) (rg 0) (rs 0) (rw 0) (mkp S (nI (ord.length + 1)) sh we ca hg (upd inn o 1) ky gv am (upd od' 0 (nI o))) ++ grw E rg (mgv SG (nI (addG ((gv) o) ((am) o) L).length) va2 mn2 lo2 hi2)) [(0, .ref (r 0)), (1, .int (nI o)), (2, .int (nI 0))] 98 []
        exact z_vret (pc := 98) F hR dX1_bringIn_98 (Nat.le_of_ble_eq_true rfl) (Nat.le_of_ble_eq_true rfl) ⟨_, _, va2, mn2, lo2, hi2, rfl, rfl, shO_in hS hk, ⟨hk, hgt, hf0⟩, hgr⟩
      · obtain ⟨k', rfl⟩ := nI_gt0 (by omega) c16
        obtain ⟨x, hx⟩ := at_of (ord := ord) (i := k') (by omega)
        have hx6 := hlt k' x hx
        refine z_aload_n (pc := 19) F dX1_bringIn_19 rfl 0 rfl ?_
        refine z_iload_n (pc := 20) F dX1_bringIn_20 rfl 1 rfl ?_
        refine z_aload_n (pc := 21) F dX1_bringIn_21 rfl 0 rfl ?_
        refine z_get (pc := 22) (v := .ref (r 6)) F iX1 0 rfl rfl 9 (by decide) tw_272 rfl dX1_bringIn_22 ?_
        refine z_iload_n (pc := 25) F dX1_bringIn_25 rfl 2 rfl ?_
        refine z_iconst (pc := 26) (v := 1) F dX1_bringIn_26 (by decide) ?_
        refine z_isub (pc := 27) F dX1_bringIn_27 ?_
        rw [show ((nI (k' + 1)) - 1) = nI k' from (nI_pred k')]
        refine z_ialdN (pc := 28) (f := od') F 6 0 rfl rfl k' rfl (by omega) (by decide) dX1_bringIn_28 ?_
        rw [show ((od') k') = nI x from ((hS k' x hx).1 (by omega))]
        refine z_callV (pc := 29) (q0 := 0) (ci := 1) (wr := grw E rg SG) (rest := []) F (c_X1_isBefore l E r _ _ _ _ S (nI ord.length) sh we ca hg inn ky gv am od' o x ho6 hx6) 2 [0, 1, 2, 3, 4, 5, 6] [7, 8, 9, 10, 11] rfl rfl ⟨by decide, by decide, by decide⟩ ww_Kept_155 (by decide +kernel) rfl ⟨Nat.le_of_ble_eq_true rfl, Nat.le_of_ble_eq_true rfl⟩ ⟨Nat.le_of_ble_eq_true rfl, Nat.le_of_ble_eq_true rfl⟩ rfl rfl rfl rfl (Nat.le_of_ble_eq_true rfl) dX1_bringIn_29 (fun v_ w1_ hp => ?_)
        obtain ⟨rfl, rfl⟩ := hp
        show Z X (0) (0) (grw E rg SG ++ kpw E r (rp 0) (rg 0) (rs 0) (rw 0) (mkp S (nI ord.length) sh we ca hg inn ky gv am od')) [(0, .ref (r 0)), (1, .int (nI o)), (2, .int (nI (k' + 1)))] 32 [.int (bI (bfB ky o x))]
        refine z_if_eq (pc := 32) (tgt := 55) F dX1_bringIn_32 (by decide) (fun c32 => ?_) (fun c32 => ?_)
        · replace c32 := bI_f c32
          have hf0 := hf_at hx c32
          refine z_aload_n (pc := 55) F dX1_bringIn_55 rfl 0 rfl ?_
          refine z_get (pc := 56) (v := .ref (r 6)) F iX1 5 rfl rfl 9 (by decide) tw_272 rfl dX1_bringIn_56 ?_
          refine z_iload_n (pc := 59) F dX1_bringIn_59 rfl 2 rfl ?_
          refine z_iload_n (pc := 60) F dX1_bringIn_60 rfl 1 rfl ?_
          refine z_iastN (pc := 61) (ws' := grw E rg SG ++ kpw E r (rp 0) (rg 0) (rs 0) (rw 0) (mkp S (nI ord.length) sh we ca hg inn ky gv am (upd od' (k' + 1) (nI o)))) (f := od') F 11 0 rfl rfl (k' + 1) rfl (by omega) (by decide) dX1_bringIn_61 rfl ?_
          refine z_aload_n (pc := 62) F dX1_bringIn_62 rfl 0 rfl ?_
          refine z_dup (pc := 63) F dX1_bringIn_63 rfl ?_
          refine z_get (pc := 64) (v := .int (nI ord.length)) F iX1 5 rfl rfl 10 (by decide) tw_273 rfl dX1_bringIn_64 ?_
          refine z_iconst (pc := 67) (v := 1) F dX1_bringIn_67 (by decide) ?_
          refine z_iadd (pc := 68) F dX1_bringIn_68 ?_
          rw [show ((nI ord.length) + 1) = nI (ord.length + 1) from (nI_1 _)]
          refine z_put (pc := 69) (ws' := grw E rg SG ++ kpw E r (rp 0) (rg 0) (rs 0) (rw 0) (mkp S (nI (ord.length + 1)) sh we ca hg inn ky gv am (upd od' (k' + 1) (nI o)))) F iX1 tyX1 tyX1_ok nmX1 5 rfl rfl 10 (by decide) tw_273 rfl rfl rfl (Nat.le_of_ble_eq_true rfl) dX1_bringIn_69 rfl ?_
          refine z_aload_n (pc := 72) F dX1_bringIn_72 rfl 0 rfl ?_
          refine z_get (pc := 73) (v := .ref (r 2)) F iX1 5 rfl rfl 5 (by decide) tw_268 rfl dX1_bringIn_73 ?_
          refine z_iload_n (pc := 76) F dX1_bringIn_76 rfl 1 rfl ?_
          refine z_iconst (pc := 77) (v := 1) F dX1_bringIn_77 (by decide) ?_
          refine z_zastN (pc := 78) (ws' := grw E rg SG ++ kpw E r (rp 0) (rg 0) (rs 0) (rw 0) (mkp S (nI (ord.length + 1)) sh we ca hg (upd inn o 1) ky gv am (upd od' (k' + 1) (nI o)))) (f := inn) F 7 2 rfl rfl o rfl (by omega) (by decide) rfl dX1_bringIn_78 rfl ?_
          refine z_aload_n (pc := 79) F dX1_bringIn_79 rfl 0 rfl ?_
          refine z_get (pc := 80) (v := .ref (rg 0)) F iX1 5 rfl rfl 1 (by decide) tw_263 rfl dX1_bringIn_80 ?_
          refine z_aload_n (pc := 83) F dX1_bringIn_83 rfl 0 rfl ?_
          refine z_get (pc := 84) (v := .ref (r 4)) F iX1 5 rfl rfl 7 (by decide) tw_270 rfl dX1_bringIn_84 ?_
          refine z_iload_n (pc := 87) F dX1_bringIn_87 rfl 1 rfl ?_
          refine z_laldN (pc := 88) (f := gv) F 9 1 rfl rfl o rfl (by omega) (by decide) dX1_bringIn_88 ?_
          refine z_aload_n (pc := 89) F dX1_bringIn_89 rfl 0 rfl ?_
          refine z_get (pc := 90) (v := .ref (r 5)) F iX1 5 rfl rfl 8 (by decide) tw_271 rfl dX1_bringIn_90 ?_
          refine z_iload_n (pc := 93) F dX1_bringIn_93 rfl 1 rfl ?_
          refine z_laldN (pc := 94) (f := am) F 10 1 rfl rfl o rfl (by omega) (by decide) dX1_bringIn_94 ?_
          refine z_callV (pc := 95) (q0 := 0) (ci := 0) (wr := kpw E r (rp 0) (rg 0) (rs 0) (rw 0) (mkp S (nI (ord.length + 1)) sh we ca hg (upd inn o 1) ky gv am (upd od' (k' + 1) (nI o)))) (rest := []) F (c_X0_add l E rg SG L ((gv) o) ((am) o) hL hroom hgc hgh) 2 [0, 1, 2, 3, 4] [5, 6, 7, 8, 9, 10, 11] rfl rfl ⟨by decide, by decide, by decide⟩ ww_Kept_158 (by decide +kernel) rfl ⟨Nat.le_of_ble_eq_true rfl, Nat.le_of_ble_eq_true rfl⟩ ⟨Nat.le_of_ble_eq_true rfl, Nat.le_of_ble_eq_true rfl⟩ rfl rfl rfl rfl (Nat.le_of_ble_eq_true rfl) dX1_bringIn_95 (fun v_ w1_ hp => ?_)
          obtain ⟨va2, mn2, lo2, hi2, rfl, rfl, hgr⟩ := hp
          show Z X (0) (0) (kpw E r (rp 0) (rg 0) (rs 0) (rw 0) (mkp S (nI (ord.length + 1)) sh we ca hg (upd inn o 1) ky gv am (upd od' (k' + 1) (nI o))) ++ grw E rg (mgv SG (nI (addG ((gv) o) ((am) o) L).length) va2 mn2 lo2 hi2)) [(0, .ref (r 0)), (1, .int (nI o)), (2, .int (nI (k' + 1)))] 98 []
          exact z_vret (pc := 98) F hR dX1_bringIn_98 (Nat.le_of_ble_eq_true rfl) (Nat.le_of_ble_eq_true rfl) ⟨_, _, va2, mn2, lo2, hi2, rfl, rfl, shO_in hS hk, ⟨hk, hgt, hf0⟩, hgr⟩
        · replace c32 := bI_t c32
          refine z_aload_n (pc := 35) F dX1_bringIn_35 rfl 0 rfl ?_
          refine z_get (pc := 36) (v := .ref (r 6)) F iX1 5 rfl rfl 9 (by decide) tw_272 rfl dX1_bringIn_36 ?_
          refine z_iload_n (pc := 39) F dX1_bringIn_39 rfl 2 rfl ?_
          refine z_aload_n (pc := 40) F dX1_bringIn_40 rfl 0 rfl ?_
          refine z_get (pc := 41) (v := .ref (r 6)) F iX1 5 rfl rfl 9 (by decide) tw_272 rfl dX1_bringIn_41 ?_
          refine z_iload_n (pc := 44) F dX1_bringIn_44 rfl 2 rfl ?_
          refine z_iconst (pc := 45) (v := 1) F dX1_bringIn_45 (by decide) ?_
          refine z_isub (pc := 46) F dX1_bringIn_46 ?_
          rw [show ((nI (k' + 1)) - 1) = nI k' from (nI_pred k')]
          refine z_ialdN (pc := 47) (f := od') F 11 0 rfl rfl k' rfl (by omega) (by decide) dX1_bringIn_47 ?_
          rw [show ((od') k') = nI x from ((hS k' x hx).1 (by omega))]
          refine z_iastN (pc := 48) (ws' := grw E rg SG ++ kpw E r (rp 0) (rg 0) (rs 0) (rw 0) (mkp S (nI ord.length) sh we ca hg inn ky gv am (upd od' (k' + 1) (nI x)))) (f := od') F 11 0 rfl rfl (k' + 1) rfl (by omega) (by decide) dX1_bringIn_48 rfl ?_
          refine z_iinc (pc := 49) (v := nI k') (lv' := [(0, .ref (r 0)), (1, .int (nI o)), (2, .int (nI k'))]) F (j := 2) dX1_bringIn_49 rfl (i_m1 k') (by decide) [1, 2, 0] rfl ?_
          refine z_goto (pc := 52) (tgt := 15) F dX1_bringIn_52 (by decide) ?_
          refine z_world (ws' := kpw E r (rp 0) (rg 0) (rs 0) (rw 0) (mkp S (nI ord.length) sh we ca hg inn ky gv am (upd od' (k' + 1) (nI x))) ++ grw E rg SG) [5, 6, 7, 8, 9, 10, 11, 0, 1, 2, 3, 4] (by decide) rfl ?_
          exact ih15 k' _ (by omega) (by omega) (shO_s hS hx) (fun j y hy hj => by
      by_cases e : j = k'
      · subst e; rw [hx] at hy; cases hy; exact c32
      · exact hgt j y hy (by omega))
  exact L15 _ ord.length od (Nat.lt_succ_self _) (Nat.le_refl _) (shO_0 ho) (fun j y hy hj => absurd (List.getElem?_eq_some_iff.mp hy).1 (by omega))

set_option maxHeartbeats 4000000 in
set_option maxRecDepth 100000 in
theorem c_X4_madeCount (l : Launch) (E : zE) (r : Nat → Nat) (S : zS) : Ct l yX4_madeCount cX4_madeCount 1 (some .int) ({ frames := 0, cells := 0, slots := 0, locals := 0 } : Room) E (sw E r S) [.ref (r 0)] (fun v_ w_ => v_ = some (.int (zi S 0)) ∧ w_ = sw E r S) := by
  refine Ct.of (by decide) (Nat.le_of_ble_eq_true rfl) (lv := [(0, .ref (r 0))]) rfl ?_
  intro X F hR
  have F : zF X l ({ frames := 0, cells := 0, slots := 0, locals := 0 } : Room) E cX4_madeCount 1 "LiveQueries$Store" := F
  refine z_aload_n (pc := 0) F dX4_madeCount_0 rfl 0 rfl ?_
  refine z_get (pc := 1) (v := .int (zi S 0)) F iX4 0 rfl rfl 6 (by decide) tw_106 rfl dX4_madeCount_1 ?_
  exact z_iret (pc := 4) F hR dX4_madeCount_4 (Nat.le_of_ble_eq_true rfl) (Nat.le_of_ble_eq_true rfl) ⟨rfl, rfl⟩
set_option maxHeartbeats 4000000 in
set_option maxRecDepth 100000 in
theorem c_X4_isThere (l : Launch) (E : zE) (r : Nat → Nat) (S : zS) (m : Nat) (o : Int32) (hm : m ≤ 60) (hmo : zi S 0 = nI m) : Ct l yX4_isThere cX4_isThere 2 (some .boolean) ({ frames := 0, cells := 0, slots := 0, locals := 0 } : Room) E (sw E r S) [.ref (r 0), .int o] (fun v_ w_ => v_ = some (.int (bI (thB m (za S 1) o))) ∧ w_ = sw E r S) := by
  refine Ct.of (by decide) (Nat.le_of_ble_eq_true rfl) (lv := [(0, .ref (r 0)), (1, .int o)]) rfl ?_
  intro X F hR
  have F : zF X l ({ frames := 0, cells := 0, slots := 0, locals := 0 } : Room) E cX4_isThere 2 "LiveQueries$Store" := F
  refine z_iload_n (pc := 0) F dX4_isThere_0 rfl 1 rfl ?_
  refine z_if_lt (pc := 1) (tgt := 25) F dX4_isThere_1 (by decide) (fun c1 => ?_) (fun c1 => ?_)
  · refine z_iconst (pc := 25) (v := 0) F dX4_isThere_25 (by decide) ?_
    exact z_zret (pc := 26) F hR rfl dX4_isThere_26 (Nat.le_of_ble_eq_true rfl) (Nat.le_of_ble_eq_true rfl) ⟨by rw [thB_no (by omega) (by first | exact no_lt (by omega) c1 | exact no_ge (by omega) c9)]; rfl, rfl⟩
  · refine z_iload_n (pc := 4) F dX4_isThere_4 rfl 1 rfl ?_
    refine z_aload_n (pc := 5) F dX4_isThere_5 rfl 0 rfl ?_
    refine z_get (pc := 6) (v := .int (zi S 0)) F iX4 0 rfl rfl 6 (by decide) tw_106 rfl dX4_isThere_6 ?_
    rw [show (zi S 0) = nI m from hmo]
    refine z_icmp_ge (pc := 9) (tgt := 25) F dX4_isThere_9 (by decide) (fun c9 => ?_) (fun c9 => ?_)
    · refine z_iconst (pc := 25) (v := 0) F dX4_isThere_25 (by decide) ?_
      exact z_zret (pc := 26) F hR rfl dX4_isThere_26 (Nat.le_of_ble_eq_true rfl) (Nat.le_of_ble_eq_true rfl) ⟨by rw [thB_no (by omega) (by first | exact no_lt (by omega) c1 | exact no_ge (by omega) c9)]; rfl, rfl⟩
    · obtain ⟨j, hj, rfl, -⟩ := pk_mu c1 c9 (by omega)
      refine z_aload_n (pc := 12) F dX4_isThere_12 rfl 0 rfl ?_
      refine z_get (pc := 13) (v := .ref (r 1)) F iX4 0 rfl rfl 0 (by decide) tw_100 rfl dX4_isThere_13 ?_
      refine z_iload_n (pc := 16) F dX4_isThere_16 rfl 1 rfl ?_
      refine z_zaldN (pc := 17) (f := za S 1) F 1 2 rfl rfl j rfl (by omega) (by decide) dX4_isThere_17 ?_
      refine z_if_eq (pc := 18) (tgt := 25) F dX4_isThere_18 (by decide) (fun c18 => ?_) (fun c18 => ?_)
      · refine z_iconst (pc := 25) (v := 0) F dX4_isThere_25 (by decide) ?_
        exact z_zret (pc := 26) F hR rfl dX4_isThere_26 (Nat.le_of_ble_eq_true rfl) (Nat.le_of_ble_eq_true rfl) ⟨by rw [thB_nI (by omega) hj, show decide (¬ za S 1 j = 0) = false from by simp [c18]]; rfl, rfl⟩
      · refine z_iconst (pc := 21) (v := 1) F dX4_isThere_21 (by decide) ?_
        refine z_goto (pc := 22) (tgt := 26) F dX4_isThere_22 (by decide) ?_
        exact z_zret (pc := 26) F hR rfl dX4_isThere_26 (Nat.le_of_ble_eq_true rfl) (Nat.le_of_ble_eq_true rfl) ⟨by rw [thB_nI (by omega) hj, show decide (¬ za S 1 j = 0) = true from by simp [c18]]; rfl, rfl⟩
set_option maxHeartbeats 4000000 in
set_option maxRecDepth 100000 in
theorem c_X4_hasItem (l : Launch) (E : zE) (r : Nat → Nat) (S : zS) (m : Nat) (o : Int32) (i : Int64) (hm : m ≤ 60) (hmo : zi S 0 = nI m) : Ct l yX4_hasItem cX4_hasItem 4 (some .boolean) ({ frames := 0, cells := 0, slots := 0, locals := 0 } : Room) E (sw E r S) [.ref (r 0), .int o, .long i] (fun v_ w_ => v_ = some (.int (bI (hasB m (za S 4) o i))) ∧ w_ = sw E r S) := by
  refine Ct.of (by decide) (Nat.le_of_ble_eq_true rfl) (lv := [(0, .ref (r 0)), (1, .int o), (2, .long i)]) rfl ?_
  intro X F hR
  have F : zF X l ({ frames := 0, cells := 0, slots := 0, locals := 0 } : Room) E cX4_hasItem 4 "LiveQueries$Store" := F
  refine z_iload_n (pc := 0) F dX4_hasItem_0 rfl 1 rfl ?_
  refine z_if_lt (pc := 1) (tgt := 34) F dX4_hasItem_1 (by decide) (fun c1 => ?_) (fun c1 => ?_)
  · refine z_iconst (pc := 34) (v := 0) F dX4_hasItem_34 (by decide) ?_
    exact z_zret (pc := 35) F hR rfl dX4_hasItem_35 (Nat.le_of_ble_eq_true rfl) (Nat.le_of_ble_eq_true rfl) ⟨by rw [hasB_no (by first | exact no_lt (by omega) c1 | exact no_ge (by omega) c9)]; rfl, rfl⟩
  · refine z_iload_n (pc := 4) F dX4_hasItem_4 rfl 1 rfl ?_
    refine z_aload_n (pc := 5) F dX4_hasItem_5 rfl 0 rfl ?_
    refine z_get (pc := 6) (v := .int (zi S 0)) F iX4 0 rfl rfl 6 (by decide) tw_106 rfl dX4_hasItem_6 ?_
    rw [show (zi S 0) = nI m from hmo]
    refine z_icmp_ge (pc := 9) (tgt := 34) F dX4_hasItem_9 (by decide) (fun c9 => ?_) (fun c9 => ?_)
    · refine z_iconst (pc := 34) (v := 0) F dX4_hasItem_34 (by decide) ?_
      exact z_zret (pc := 35) F hR rfl dX4_hasItem_35 (Nat.le_of_ble_eq_true rfl) (Nat.le_of_ble_eq_true rfl) ⟨by rw [hasB_no (by first | exact no_lt (by omega) c1 | exact no_ge (by omega) c9)]; rfl, rfl⟩
    · obtain ⟨j, hj, rfl, -⟩ := pk_mu c1 c9 (by omega)
      refine z_lload_n (pc := 12) F dX4_hasItem_12 rfl 2 rfl ?_
      refine z_lconst (pc := 13) (v := 0) F dX4_hasItem_13 (by decide) ?_
      refine z_l_lt (pc := 14) (tgt := 34) F dX4_hasItem_14 dX4_hasItem_15 (by decide) (fun c14 => ?_) (fun c14 => ?_)
      · refine z_iconst (pc := 34) (v := 0) F dX4_hasItem_34 (by decide) ?_
        exact z_zret (pc := 35) F hR rfl dX4_hasItem_35 (Nat.le_of_ble_eq_true rfl) (Nat.le_of_ble_eq_true rfl) ⟨by rw [hasB_nI (by omega) hj, show decide (¬ i < 0 ∧ ¬ (za S 4 j).toInt64 ≤ i) = false from decide_eq_false (by first | exact fun h => h.1 c14 | exact fun h => h.2 c26)]; rfl, rfl⟩
      · refine z_lload_n (pc := 18) F dX4_hasItem_18 rfl 2 rfl ?_
        refine z_aload_n (pc := 19) F dX4_hasItem_19 rfl 0 rfl ?_
        refine z_get (pc := 20) (v := .ref (r 4)) F iX4 0 rfl rfl 3 (by decide) tw_103 rfl dX4_hasItem_20 ?_
        refine z_iload_n (pc := 23) F dX4_hasItem_23 rfl 1 rfl ?_
        refine z_ialdN (pc := 24) (f := za S 4) F 4 0 rfl rfl j rfl (by omega) (by decide) dX4_hasItem_24 ?_
        refine z_i2l (pc := 25) F dX4_hasItem_25 ?_
        refine z_l_ge (pc := 26) (tgt := 34) F dX4_hasItem_26 dX4_hasItem_27 (by decide) (fun c26 => ?_) (fun c26 => ?_)
        · refine z_iconst (pc := 34) (v := 0) F dX4_hasItem_34 (by decide) ?_
          exact z_zret (pc := 35) F hR rfl dX4_hasItem_35 (Nat.le_of_ble_eq_true rfl) (Nat.le_of_ble_eq_true rfl) ⟨by rw [hasB_nI (by omega) hj, show decide (¬ i < 0 ∧ ¬ (za S 4 j).toInt64 ≤ i) = false from decide_eq_false (by first | exact fun h => h.1 c14 | exact fun h => h.2 c26)]; rfl, rfl⟩
        · refine z_iconst (pc := 30) (v := 1) F dX4_hasItem_30 (by decide) ?_
          refine z_goto (pc := 31) (tgt := 35) F dX4_hasItem_31 (by decide) ?_
          exact z_zret (pc := 35) F hR rfl dX4_hasItem_35 (Nat.le_of_ble_eq_true rfl) (Nat.le_of_ble_eq_true rfl) ⟨by rw [hasB_nI (by omega) hj, show decide (¬ i < 0 ∧ ¬ (za S 4 j).toInt64 ≤ i) = true from decide_eq_true ⟨c14, c26⟩]; rfl, rfl⟩
set_option maxHeartbeats 4000000 in
set_option maxRecDepth 100000 in
theorem c_X4_make_ok (l : Launch) (E : zE) (r : Nat → Nat) (S : zS) (m : Nat) (kd : Nat) (hm : m ≤ 60) (hmo : zi S 0 = nI m) (hkd : kd < 4) (hm2 : m < 60) : Ct l yX4_make cX4_make 3 (some .int) ({ frames := 1, cells := 0, slots := 0, locals := 30 } : Room) E (sw E r S) [.ref (r 0), .int (nI kd)] (fun v_ w_ => v_ = some (.int (nI m)) ∧ w_ = sw E r (zI (zA (zA (zA S 1 m 1) 2 m (nI kd)) 3 m (-1)) 0 (nI (m + 1)))) := by
  refine Ct.of (by decide) (Nat.le_of_ble_eq_true rfl) (lv := [(0, .ref (r 0)), (1, .int (nI kd))]) rfl ?_
  intro X F hR
  have F : zF X l ({ frames := 1, cells := 0, slots := 0, locals := 30 } : Room) E cX4_make 3 "LiveQueries$Store" := F
  refine z_iload_n (pc := 0) F dX4_make_0 rfl 1 rfl ?_
  refine z_if_lt (pc := 1) (tgt := 18) F dX4_make_1 (by decide) (fun c1 => absurd c1 (nI_pos (by omega))) (fun c1 => ?_)
  refine z_iload_n (pc := 4) F dX4_make_4 rfl 1 rfl ?_
  refine z_iconst (pc := 5) (v := 4) F dX4_make_5 (by decide) ?_
  refine z_icmp_ge (pc := 6) (tgt := 18) F dX4_make_6 (by decide) (fun c6 => absurd c6 (fun h => absurd (gI (a := 4) (by decide) (by omega) h) (by omega))) (fun c6 => ?_)
  refine z_aload_n (pc := 9) F dX4_make_9 rfl 0 rfl ?_
  refine z_get (pc := 10) (v := .int (zi S 0)) F iX4 0 rfl rfl 6 (by decide) tw_106 rfl dX4_make_10 ?_
  rw [show (zi S 0) = nI m from hmo]
  refine z_bipush (pc := 13) (v := 60) F dX4_make_13 (by decide) ?_
  refine z_icmp_lt (pc := 15) (tgt := 20) F dX4_make_15 (by decide) (fun c15 => ?_) (fun c15 => absurd (nI_lt (b := 60) hm2 (by decide)) c15)
  refine z_aload_n (pc := 20) F dX4_make_20 rfl 0 rfl ?_
  refine z_get (pc := 21) (v := .int (zi S 0)) F iX4 0 rfl rfl 6 (by decide) tw_106 rfl dX4_make_21 ?_
  rw [show (zi S 0) = nI m from hmo]
  refine z_istore_n (pc := 24) (lv' := [(0, .ref (r 0)), (1, .int (nI kd)), (2, .int (nI m))]) F dX4_make_24 rfl (by decide) [1, 2, 0] rfl ?_
  refine z_aload_n (pc := 25) F dX4_make_25 rfl 0 rfl ?_
  refine z_get (pc := 26) (v := .ref (r 1)) F iX4 0 rfl rfl 0 (by decide) tw_100 rfl dX4_make_26 ?_
  refine z_iload_n (pc := 29) F dX4_make_29 rfl 2 rfl ?_
  refine z_iconst (pc := 30) (v := 1) F dX4_make_30 (by decide) ?_
  refine z_zastN (pc := 31) (ws' := sw E r (zA S 1 m 1)) (f := za S 1) F 1 2 rfl rfl m rfl (by omega) (by decide) rfl dX4_make_31 rfl ?_
  refine z_aload_n (pc := 32) F dX4_make_32 rfl 0 rfl ?_
  refine z_get (pc := 33) (v := .ref (r 2)) F iX4 0 rfl rfl 1 (by decide) tw_101 rfl dX4_make_33 ?_
  refine z_iload_n (pc := 36) F dX4_make_36 rfl 2 rfl ?_
  refine z_iload_n (pc := 37) F dX4_make_37 rfl 1 rfl ?_
  refine z_iastN (pc := 38) (ws' := sw E r (zA (zA S 1 m 1) 2 m (nI kd))) (f := za S 2) F 2 0 rfl rfl m rfl (by omega) (by decide) dX4_make_38 rfl ?_
  refine z_aload_n (pc := 39) F dX4_make_39 rfl 0 rfl ?_
  refine z_get (pc := 40) (v := .ref (r 3)) F iX4 0 rfl rfl 2 (by decide) tw_102 rfl dX4_make_40 ?_
  refine z_iload_n (pc := 43) F dX4_make_43 rfl 2 rfl ?_
  refine z_iconst (pc := 44) (v := (-1)) F dX4_make_44 (by decide) ?_
  refine z_iastN (pc := 45) (ws' := sw E r (zA (zA (zA S 1 m 1) 2 m (nI kd)) 3 m (-1))) (f := za S 3) F 3 0 rfl rfl m rfl (by omega) (by decide) dX4_make_45 rfl ?_
  refine z_aload_n (pc := 46) F dX4_make_46 rfl 0 rfl ?_
  refine z_dup (pc := 47) F dX4_make_47 rfl ?_
  refine z_get (pc := 48) (v := .int (zi S 0)) F iX4 0 rfl rfl 6 (by decide) tw_106 rfl dX4_make_48 ?_
  rw [show (zi S 0) = nI m from hmo]
  refine z_iconst (pc := 51) (v := 1) F dX4_make_51 (by decide) ?_
  refine z_iadd (pc := 52) F dX4_make_52 ?_
  rw [show ((nI m) + 1) = nI (m + 1) from (nI_1 _)]
  refine z_put (pc := 53) (ws' := sw E r (zI (zA (zA (zA S 1 m 1) 2 m (nI kd)) 3 m (-1)) 0 (nI (m + 1)))) F iX4 tyX4 tyX4_ok nmX4 0 rfl rfl 6 (by decide) tw_106 rfl rfl rfl (Nat.le_of_ble_eq_true rfl) dX4_make_53 rfl ?_
  refine z_iload_n (pc := 56) F dX4_make_56 rfl 2 rfl ?_
  exact z_iret (pc := 57) F hR dX4_make_57 (Nat.le_of_ble_eq_true rfl) (Nat.le_of_ble_eq_true rfl) ⟨rfl, rfl⟩
set_option maxHeartbeats 4000000 in
set_option maxRecDepth 100000 in
theorem c_X4_make_no (l : Launch) (E : zE) (r : Nat → Nat) (S : zS) (m : Nat) (kd : Int32) (hm : m ≤ 60) (hmo : zi S 0 = nI m) (hno : ¬ (0 ≤ kd ∧ kd ≤ 3 ∧ m < 60)) : Ct l yX4_make cX4_make 3 (some .int) ({ frames := 1, cells := 0, slots := 0, locals := 30 } : Room) E (sw E r S) [.ref (r 0), .int kd] (fun v_ w_ => v_ = some (.int (-1)) ∧ w_ = sw E r S) := by
  refine Ct.of (by decide) (Nat.le_of_ble_eq_true rfl) (lv := [(0, .ref (r 0)), (1, .int kd)]) rfl ?_
  intro X F hR
  have F : zF X l ({ frames := 1, cells := 0, slots := 0, locals := 30 } : Room) E cX4_make 3 "LiveQueries$Store" := F
  refine z_iload_n (pc := 0) F dX4_make_0 rfl 1 rfl ?_
  refine z_if_lt (pc := 1) (tgt := 18) F dX4_make_1 (by decide) (fun c1 => ?_) (fun c1 => ?_)
  · refine z_iconst (pc := 18) (v := (-1)) F dX4_make_18 (by decide) ?_
    exact z_iret (pc := 19) F hR dX4_make_19 (Nat.le_of_ble_eq_true rfl) (Nat.le_of_ble_eq_true rfl) ⟨rfl, rfl⟩
  · refine z_iload_n (pc := 4) F dX4_make_4 rfl 1 rfl ?_
    refine z_iconst (pc := 5) (v := 4) F dX4_make_5 (by decide) ?_
    refine z_icmp_ge (pc := 6) (tgt := 18) F dX4_make_6 (by decide) (fun c6 => ?_) (fun c6 => ?_)
    · refine z_iconst (pc := 18) (v := (-1)) F dX4_make_18 (by decide) ?_
      exact z_iret (pc := 19) F hR dX4_make_19 (Nat.le_of_ble_eq_true rfl) (Nat.le_of_ble_eq_true rfl) ⟨rfl, rfl⟩
    · refine z_aload_n (pc := 9) F dX4_make_9 rfl 0 rfl ?_
      refine z_get (pc := 10) (v := .int (zi S 0)) F iX4 0 rfl rfl 6 (by decide) tw_106 rfl dX4_make_10 ?_
      rw [show (zi S 0) = nI m from hmo]
      refine z_bipush (pc := 13) (v := 60) F dX4_make_13 (by decide) ?_
      refine z_icmp_lt (pc := 15) (tgt := 20) F dX4_make_15 (by decide) (fun c15 => ?_) (fun c15 => ?_)
      · exact absurd ⟨i0n c1, i4n c6, (nI_ltI (b := 60) (by omega) (by decide)).mp c15⟩ hno
      · refine z_iconst (pc := 18) (v := (-1)) F dX4_make_18 (by decide) ?_
        exact z_iret (pc := 19) F hR dX4_make_19 (Nat.le_of_ble_eq_true rfl) (Nat.le_of_ble_eq_true rfl) ⟨rfl, rfl⟩
set_option maxHeartbeats 4000000 in
set_option maxRecDepth 100000 in
theorem c_X4_setPart_ok (l : Launch) (E : zE) (r : Nat → Nat) (S : zS) (m : Nat) (o : Nat) (p : Nat) (v : Int64) (hm : m ≤ 60) (hmo : zi S 0 = nI m) (hom : o < m) (hth : ¬ za S 1 o = 0) (hp : p < 3) : Ct l yX4_setPart cX4_setPart 5 (some .boolean) ({ frames := 1, cells := 0, slots := 0, locals := 30 } : Room) E (sw E r S) [.ref (r 0), .int (nI o), .int (nI p), .long v] (fun v_ w_ => v_ = some (.int (bI true)) ∧ w_ = sw E r (zB S 5 (3 * o + p) v)) := by
  refine Ct.of (by decide) (Nat.le_of_ble_eq_true rfl) (lv := [(0, .ref (r 0)), (1, .int (nI o)), (2, .int (nI p)), (3, .long v)]) rfl ?_
  intro X F hR
  have F : zF X l ({ frames := 1, cells := 0, slots := 0, locals := 30 } : Room) E cX4_setPart 5 "LiveQueries$Store" := F
  refine z_aload_n (pc := 0) F dX4_setPart_0 rfl 0 rfl ?_
  refine z_iload_n (pc := 1) F dX4_setPart_1 rfl 1 rfl ?_
  refine z_callVW (pc := 2) (q0 := 0) (ci := 4) (rest := []) F (c_X4_isThere l E r S m (nI o) hm hmo) 1 ww_Store_36 (by decide +kernel) rfl ⟨Nat.le_of_ble_eq_true rfl, Nat.le_of_ble_eq_true rfl⟩ ⟨Nat.le_of_ble_eq_true rfl, Nat.le_of_ble_eq_true rfl⟩ rfl rfl rfl rfl (Nat.le_of_ble_eq_true rfl) dX4_setPart_2 (fun v_ w1_ hp => ?_)
  obtain ⟨rfl, rfl⟩ := hp
  show Z X (0) (0) (sw E r S) [(0, .ref (r 0)), (1, .int (nI o)), (2, .int (nI p)), (3, .long v)] 5 [.int (bI (thB m (za S 1) (nI o)))]
  rw [show (bI (thB m (za S 1) (nI o))) = 1 from (thB_1 (by omega) hom hth)]
  refine z_if_eq (pc := 5) (tgt := 17) F dX4_setPart_5 (by decide) (fun h => absurd h (by decide)) (fun _ => ?_)
  refine z_iload_n (pc := 8) F dX4_setPart_8 rfl 2 rfl ?_
  refine z_if_lt (pc := 9) (tgt := 17) F dX4_setPart_9 (by decide) (fun c9 => absurd c9 (nI_pos (by omega))) (fun c9 => ?_)
  refine z_iload_n (pc := 12) F dX4_setPart_12 rfl 2 rfl ?_
  refine z_iconst (pc := 13) (v := 3) F dX4_setPart_13 (by decide) ?_
  refine z_icmp_lt (pc := 14) (tgt := 19) F dX4_setPart_14 (by decide) (fun c14 => ?_) (fun c14 => absurd (nI_lt (b := 3) hp (by decide)) c14)
  refine z_aload_n (pc := 19) F dX4_setPart_19 rfl 0 rfl ?_
  refine z_get (pc := 20) (v := .ref (r 5)) F iX4 0 rfl rfl 4 (by decide) tw_104 rfl dX4_setPart_20 ?_
  refine z_iload_n (pc := 23) F dX4_setPart_23 rfl 1 rfl ?_
  refine z_iconst (pc := 24) (v := 3) F dX4_setPart_24 (by decide) ?_
  refine z_imul (pc := 25) F dX4_setPart_25 ?_
  refine z_iload_n (pc := 26) F dX4_setPart_26 rfl 2 rfl ?_
  refine z_iadd (pc := 27) F dX4_setPart_27 ?_
  refine z_lload_n (pc := 28) F dX4_setPart_28 rfl 3 rfl ?_
  refine z_lastN (pc := 29) (ws' := sw E r (zB S 5 (3 * o + p) v)) (f := zb S 5) F 5 1 rfl rfl (3 * o + p) ix3c (by omega) (by decide) dX4_setPart_29 rfl ?_
  refine z_iconst (pc := 30) (v := 1) F dX4_setPart_30 (by decide) ?_
  exact z_zret (pc := 31) F hR rfl dX4_setPart_31 (Nat.le_of_ble_eq_true rfl) (Nat.le_of_ble_eq_true rfl) ⟨rfl, rfl⟩
set_option maxHeartbeats 4000000 in
set_option maxRecDepth 100000 in
theorem c_X4_setPart_no (l : Launch) (E : zE) (r : Nat → Nat) (S : zS) (m : Nat) (o : Int32) (p : Int32) (v : Int64) (hm : m ≤ 60) (hmo : zi S 0 = nI m) (hno : ¬ (thB m (za S 1) o = true ∧ 0 ≤ p ∧ p ≤ 2)) : Ct l yX4_setPart cX4_setPart 5 (some .boolean) ({ frames := 1, cells := 0, slots := 0, locals := 30 } : Room) E (sw E r S) [.ref (r 0), .int o, .int p, .long v] (fun v_ w_ => v_ = some (.int (bI false)) ∧ w_ = sw E r S) := by
  refine Ct.of (by decide) (Nat.le_of_ble_eq_true rfl) (lv := [(0, .ref (r 0)), (1, .int o), (2, .int p), (3, .long v)]) rfl ?_
  intro X F hR
  have F : zF X l ({ frames := 1, cells := 0, slots := 0, locals := 30 } : Room) E cX4_setPart 5 "LiveQueries$Store" := F
  refine z_aload_n (pc := 0) F dX4_setPart_0 rfl 0 rfl ?_
  refine z_iload_n (pc := 1) F dX4_setPart_1 rfl 1 rfl ?_
  refine z_callVW (pc := 2) (q0 := 0) (ci := 4) (rest := []) F (c_X4_isThere l E r S m o hm hmo) 1 ww_Store_36 (by decide +kernel) rfl ⟨Nat.le_of_ble_eq_true rfl, Nat.le_of_ble_eq_true rfl⟩ ⟨Nat.le_of_ble_eq_true rfl, Nat.le_of_ble_eq_true rfl⟩ rfl rfl rfl rfl (Nat.le_of_ble_eq_true rfl) dX4_setPart_2 (fun v_ w1_ hp => ?_)
  obtain ⟨rfl, rfl⟩ := hp
  show Z X (0) (0) (sw E r S) [(0, .ref (r 0)), (1, .int o), (2, .int p), (3, .long v)] 5 [.int (bI (thB m (za S 1) o))]
  refine z_if_eq (pc := 5) (tgt := 17) F dX4_setPart_5 (by decide) (fun c5 => ?_) (fun c5 => ?_)
  · replace c5 := bI_f c5
    refine z_iconst (pc := 17) (v := 0) F dX4_setPart_17 (by decide) ?_
    exact z_zret (pc := 18) F hR rfl dX4_setPart_18 (Nat.le_of_ble_eq_true rfl) (Nat.le_of_ble_eq_true rfl) ⟨rfl, rfl⟩
  · replace c5 := bI_t c5
    refine z_iload_n (pc := 8) F dX4_setPart_8 rfl 2 rfl ?_
    refine z_if_lt (pc := 9) (tgt := 17) F dX4_setPart_9 (by decide) (fun c9 => ?_) (fun c9 => ?_)
    · refine z_iconst (pc := 17) (v := 0) F dX4_setPart_17 (by decide) ?_
      exact z_zret (pc := 18) F hR rfl dX4_setPart_18 (Nat.le_of_ble_eq_true rfl) (Nat.le_of_ble_eq_true rfl) ⟨rfl, rfl⟩
    · refine z_iload_n (pc := 12) F dX4_setPart_12 rfl 2 rfl ?_
      refine z_iconst (pc := 13) (v := 3) F dX4_setPart_13 (by decide) ?_
      refine z_icmp_lt (pc := 14) (tgt := 19) F dX4_setPart_14 (by decide) (fun c14 => ?_) (fun c14 => ?_)
      · exact absurd ⟨c5, i0n c9, i3l c14⟩ hno
      · refine z_iconst (pc := 17) (v := 0) F dX4_setPart_17 (by decide) ?_
        exact z_zret (pc := 18) F hR rfl dX4_setPart_18 (Nat.le_of_ble_eq_true rfl) (Nat.le_of_ble_eq_true rfl) ⟨rfl, rfl⟩
set_option maxHeartbeats 4000000 in
set_option maxRecDepth 100000 in
theorem c_X4_setReference_n (l : Launch) (E : zE) (r : Nat → Nat) (S : zS) (m : Nat) (o : Nat) (hm : m ≤ 60) (hmo : zi S 0 = nI m) (hom : o < m) (hth : ¬ za S 1 o = 0) : Ct l yX4_setReference cX4_setReference 3 (some .boolean) ({ frames := 1, cells := 0, slots := 0, locals := 30 } : Room) E (sw E r S) [.ref (r 0), .int (nI o), .int (-1)] (fun v_ w_ => v_ = some (.int (bI true)) ∧ w_ = sw E r (zA S 3 o (-1))) := by
  refine Ct.of (by decide) (Nat.le_of_ble_eq_true rfl) (lv := [(0, .ref (r 0)), (1, .int (nI o)), (2, .int (-1))]) rfl ?_
  intro X F hR
  have F : zF X l ({ frames := 1, cells := 0, slots := 0, locals := 30 } : Room) E cX4_setReference 3 "LiveQueries$Store" := F
  refine z_aload_n (pc := 0) F dX4_setReference_0 rfl 0 rfl ?_
  refine z_iload_n (pc := 1) F dX4_setReference_1 rfl 1 rfl ?_
  refine z_callVW (pc := 2) (q0 := 0) (ci := 4) (rest := []) F (c_X4_isThere l E r S m (nI o) hm hmo) 1 ww_Store_36 (by decide +kernel) rfl ⟨Nat.le_of_ble_eq_true rfl, Nat.le_of_ble_eq_true rfl⟩ ⟨Nat.le_of_ble_eq_true rfl, Nat.le_of_ble_eq_true rfl⟩ rfl rfl rfl rfl (Nat.le_of_ble_eq_true rfl) dX4_setReference_2 (fun v_ w1_ hp => ?_)
  obtain ⟨rfl, rfl⟩ := hp
  show Z X (0) (0) (sw E r S) [(0, .ref (r 0)), (1, .int (nI o)), (2, .int (-1))] 5 [.int (bI (thB m (za S 1) (nI o)))]
  rw [show (bI (thB m (za S 1) (nI o))) = 1 from (thB_1 (by omega) hom hth)]
  refine z_if_eq (pc := 5) (tgt := 21) F dX4_setReference_5 (by decide) (fun h => absurd h (by decide)) (fun _ => ?_)
  refine z_iload_n (pc := 8) F dX4_setReference_8 rfl 2 rfl ?_
  refine z_iconst (pc := 9) (v := (-1)) F dX4_setReference_9 (by decide) ?_
  refine z_icmp_eq (pc := 10) (tgt := 23) F dX4_setReference_10 (by decide) (fun _ => ?_) (fun h => absurd h (by decide))
  refine z_aload_n (pc := 23) F dX4_setReference_23 rfl 0 rfl ?_
  refine z_get (pc := 24) (v := .ref (r 3)) F iX4 0 rfl rfl 2 (by decide) tw_102 rfl dX4_setReference_24 ?_
  refine z_iload_n (pc := 27) F dX4_setReference_27 rfl 1 rfl ?_
  refine z_iload_n (pc := 28) F dX4_setReference_28 rfl 2 rfl ?_
  refine z_iastN (pc := 29) (ws' := sw E r (zA S 3 o (-1))) (f := za S 3) F 3 0 rfl rfl o rfl (by omega) (by decide) dX4_setReference_29 rfl ?_
  refine z_iconst (pc := 30) (v := 1) F dX4_setReference_30 (by decide) ?_
  exact z_zret (pc := 31) F hR rfl dX4_setReference_31 (Nat.le_of_ble_eq_true rfl) (Nat.le_of_ble_eq_true rfl) ⟨rfl, rfl⟩
set_option maxHeartbeats 4000000 in
set_option maxRecDepth 100000 in
theorem c_X4_setReference_s (l : Launch) (E : zE) (r : Nat → Nat) (S : zS) (m : Nat) (o : Nat) (t : Nat) (hm : m ≤ 60) (hmo : zi S 0 = nI m) (hom : o < m) (hth : ¬ za S 1 o = 0) (htm : t < m) (htt : ¬ za S 1 t = 0) : Ct l yX4_setReference cX4_setReference 3 (some .boolean) ({ frames := 1, cells := 0, slots := 0, locals := 30 } : Room) E (sw E r S) [.ref (r 0), .int (nI o), .int (nI t)] (fun v_ w_ => v_ = some (.int (bI true)) ∧ w_ = sw E r (zA S 3 o (nI t))) := by
  refine Ct.of (by decide) (Nat.le_of_ble_eq_true rfl) (lv := [(0, .ref (r 0)), (1, .int (nI o)), (2, .int (nI t))]) rfl ?_
  intro X F hR
  have F : zF X l ({ frames := 1, cells := 0, slots := 0, locals := 30 } : Room) E cX4_setReference 3 "LiveQueries$Store" := F
  refine z_aload_n (pc := 0) F dX4_setReference_0 rfl 0 rfl ?_
  refine z_iload_n (pc := 1) F dX4_setReference_1 rfl 1 rfl ?_
  refine z_callVW (pc := 2) (q0 := 0) (ci := 4) (rest := []) F (c_X4_isThere l E r S m (nI o) hm hmo) 1 ww_Store_36 (by decide +kernel) rfl ⟨Nat.le_of_ble_eq_true rfl, Nat.le_of_ble_eq_true rfl⟩ ⟨Nat.le_of_ble_eq_true rfl, Nat.le_of_ble_eq_true rfl⟩ rfl rfl rfl rfl (Nat.le_of_ble_eq_true rfl) dX4_setReference_2 (fun v_ w1_ hp => ?_)
  obtain ⟨rfl, rfl⟩ := hp
  show Z X (0) (0) (sw E r S) [(0, .ref (r 0)), (1, .int (nI o)), (2, .int (nI t))] 5 [.int (bI (thB m (za S 1) (nI o)))]
  rw [show (bI (thB m (za S 1) (nI o))) = 1 from (thB_1 (by omega) hom hth)]
  refine z_if_eq (pc := 5) (tgt := 21) F dX4_setReference_5 (by decide) (fun h => absurd h (by decide)) (fun _ => ?_)
  refine z_iload_n (pc := 8) F dX4_setReference_8 rfl 2 rfl ?_
  refine z_iconst (pc := 9) (v := (-1)) F dX4_setReference_9 (by decide) ?_
  refine z_icmp_eq (pc := 10) (tgt := 23) F dX4_setReference_10 (by decide) (fun c10 => absurd c10 (nI_nm (by omega))) (fun c10 => ?_)
  refine z_aload_n (pc := 13) F dX4_setReference_13 rfl 0 rfl ?_
  refine z_iload_n (pc := 14) F dX4_setReference_14 rfl 2 rfl ?_
  refine z_callVW (pc := 15) (q0 := 0) (ci := 4) (rest := []) F (c_X4_isThere l E r S m (nI t) hm hmo) 1 ww_Store_36 (by decide +kernel) rfl ⟨Nat.le_of_ble_eq_true rfl, Nat.le_of_ble_eq_true rfl⟩ ⟨Nat.le_of_ble_eq_true rfl, Nat.le_of_ble_eq_true rfl⟩ rfl rfl rfl rfl (Nat.le_of_ble_eq_true rfl) dX4_setReference_15 (fun v_ w1_ hp => ?_)
  obtain ⟨rfl, rfl⟩ := hp
  show Z X (0) (0) (sw E r S) [(0, .ref (r 0)), (1, .int (nI o)), (2, .int (nI t))] 18 [.int (bI (thB m (za S 1) (nI t)))]
  rw [show (bI (thB m (za S 1) (nI t))) = 1 from (thB_1 (by omega) htm htt)]
  refine z_if_ne (pc := 18) (tgt := 23) F dX4_setReference_18 (by decide) (fun _ => ?_) (fun h => absurd h (by decide))
  refine z_aload_n (pc := 23) F dX4_setReference_23 rfl 0 rfl ?_
  refine z_get (pc := 24) (v := .ref (r 3)) F iX4 0 rfl rfl 2 (by decide) tw_102 rfl dX4_setReference_24 ?_
  refine z_iload_n (pc := 27) F dX4_setReference_27 rfl 1 rfl ?_
  refine z_iload_n (pc := 28) F dX4_setReference_28 rfl 2 rfl ?_
  refine z_iastN (pc := 29) (ws' := sw E r (zA S 3 o (nI t))) (f := za S 3) F 3 0 rfl rfl o rfl (by omega) (by decide) dX4_setReference_29 rfl ?_
  refine z_iconst (pc := 30) (v := 1) F dX4_setReference_30 (by decide) ?_
  exact z_zret (pc := 31) F hR rfl dX4_setReference_31 (Nat.le_of_ble_eq_true rfl) (Nat.le_of_ble_eq_true rfl) ⟨rfl, rfl⟩
set_option maxHeartbeats 4000000 in
set_option maxRecDepth 100000 in
theorem c_X4_setReference_no (l : Launch) (E : zE) (r : Nat → Nat) (S : zS) (m : Nat) (o : Int32) (t : Int32) (hm : m ≤ 60) (hmo : zi S 0 = nI m) (hno : ¬ (thB m (za S 1) o = true ∧ (t = -1 ∨ thB m (za S 1) t = true))) : Ct l yX4_setReference cX4_setReference 3 (some .boolean) ({ frames := 1, cells := 0, slots := 0, locals := 30 } : Room) E (sw E r S) [.ref (r 0), .int o, .int t] (fun v_ w_ => v_ = some (.int (bI false)) ∧ w_ = sw E r S) := by
  refine Ct.of (by decide) (Nat.le_of_ble_eq_true rfl) (lv := [(0, .ref (r 0)), (1, .int o), (2, .int t)]) rfl ?_
  intro X F hR
  have F : zF X l ({ frames := 1, cells := 0, slots := 0, locals := 30 } : Room) E cX4_setReference 3 "LiveQueries$Store" := F
  refine z_aload_n (pc := 0) F dX4_setReference_0 rfl 0 rfl ?_
  refine z_iload_n (pc := 1) F dX4_setReference_1 rfl 1 rfl ?_
  refine z_callVW (pc := 2) (q0 := 0) (ci := 4) (rest := []) F (c_X4_isThere l E r S m o hm hmo) 1 ww_Store_36 (by decide +kernel) rfl ⟨Nat.le_of_ble_eq_true rfl, Nat.le_of_ble_eq_true rfl⟩ ⟨Nat.le_of_ble_eq_true rfl, Nat.le_of_ble_eq_true rfl⟩ rfl rfl rfl rfl (Nat.le_of_ble_eq_true rfl) dX4_setReference_2 (fun v_ w1_ hp => ?_)
  obtain ⟨rfl, rfl⟩ := hp
  show Z X (0) (0) (sw E r S) [(0, .ref (r 0)), (1, .int o), (2, .int t)] 5 [.int (bI (thB m (za S 1) o))]
  refine z_if_eq (pc := 5) (tgt := 21) F dX4_setReference_5 (by decide) (fun c5 => ?_) (fun c5 => ?_)
  · replace c5 := bI_f c5
    refine z_iconst (pc := 21) (v := 0) F dX4_setReference_21 (by decide) ?_
    exact z_zret (pc := 22) F hR rfl dX4_setReference_22 (Nat.le_of_ble_eq_true rfl) (Nat.le_of_ble_eq_true rfl) ⟨rfl, rfl⟩
  · replace c5 := bI_t c5
    refine z_iload_n (pc := 8) F dX4_setReference_8 rfl 2 rfl ?_
    refine z_iconst (pc := 9) (v := (-1)) F dX4_setReference_9 (by decide) ?_
    refine z_icmp_eq (pc := 10) (tgt := 23) F dX4_setReference_10 (by decide) (fun c10 => ?_) (fun c10 => ?_)
    · exact absurd ⟨c5, Or.inl c10⟩ hno
    · refine z_aload_n (pc := 13) F dX4_setReference_13 rfl 0 rfl ?_
      refine z_iload_n (pc := 14) F dX4_setReference_14 rfl 2 rfl ?_
      refine z_callVW (pc := 15) (q0 := 0) (ci := 4) (rest := []) F (c_X4_isThere l E r S m t hm hmo) 1 ww_Store_36 (by decide +kernel) rfl ⟨Nat.le_of_ble_eq_true rfl, Nat.le_of_ble_eq_true rfl⟩ ⟨Nat.le_of_ble_eq_true rfl, Nat.le_of_ble_eq_true rfl⟩ rfl rfl rfl rfl (Nat.le_of_ble_eq_true rfl) dX4_setReference_15 (fun v_ w1_ hp => ?_)
      obtain ⟨rfl, rfl⟩ := hp
      show Z X (0) (0) (sw E r S) [(0, .ref (r 0)), (1, .int o), (2, .int t)] 18 [.int (bI (thB m (za S 1) t))]
      refine z_if_ne (pc := 18) (tgt := 23) F dX4_setReference_18 (by decide) (fun c18 => ?_) (fun c18 => ?_)
      · replace c18 := bI_t c18
        exact absurd ⟨c5, Or.inr c18⟩ hno
      · replace c18 := bI_f c18
        refine z_iconst (pc := 21) (v := 0) F dX4_setReference_21 (by decide) ?_
        exact z_zret (pc := 22) F hR rfl dX4_setReference_22 (Nat.le_of_ble_eq_true rfl) (Nat.le_of_ble_eq_true rfl) ⟨rfl, rfl⟩
set_option maxHeartbeats 4000000 in
set_option maxRecDepth 100000 in
theorem c_X4_setLength_ok (l : Launch) (E : zE) (r : Nat → Nat) (S : zS) (m : Nat) (o : Nat) (nn : Nat) (hm : m ≤ 60) (hmo : zi S 0 = nI m) (hom : o < m) (hth : ¬ za S 1 o = 0) (hn : nn ≤ 8) : Ct l yX4_setLength cX4_setLength 4 (some .boolean) ({ frames := 1, cells := 0, slots := 0, locals := 30 } : Room) E (sw E r S) [.ref (r 0), .int (nI o), .int (nI nn)] (fun v_ w_ => v_ = some (.int (bI true)) ∧ w_ = sw E r (zA (zBw S 6 (clrP (zb S 6) o nn 8)) 4 o (nI nn))) := by
  refine Ct.of (by decide) (Nat.le_of_ble_eq_true rfl) (lv := [(0, .ref (r 0)), (1, .int (nI o)), (2, .int (nI nn))]) rfl ?_
  intro X F hR
  have F : zF X l ({ frames := 1, cells := 0, slots := 0, locals := 30 } : Room) E cX4_setLength 4 "LiveQueries$Store" := F
  refine z_aload_n (pc := 0) F dX4_setLength_0 rfl 0 rfl ?_
  refine z_iload_n (pc := 1) F dX4_setLength_1 rfl 1 rfl ?_
  refine z_callVW (pc := 2) (q0 := 0) (ci := 4) (rest := []) F (c_X4_isThere l E r S m (nI o) hm hmo) 1 ww_Store_36 (by decide +kernel) rfl ⟨Nat.le_of_ble_eq_true rfl, Nat.le_of_ble_eq_true rfl⟩ ⟨Nat.le_of_ble_eq_true rfl, Nat.le_of_ble_eq_true rfl⟩ rfl rfl rfl rfl (Nat.le_of_ble_eq_true rfl) dX4_setLength_2 (fun v_ w1_ hp => ?_)
  obtain ⟨rfl, rfl⟩ := hp
  show Z X (0) (0) (sw E r S) [(0, .ref (r 0)), (1, .int (nI o)), (2, .int (nI nn))] 5 [.int (bI (thB m (za S 1) (nI o)))]
  rw [show (bI (thB m (za S 1) (nI o))) = 1 from (thB_1 (by omega) hom hth)]
  refine z_if_eq (pc := 5) (tgt := 18) F dX4_setLength_5 (by decide) (fun h => absurd h (by decide)) (fun _ => ?_)
  refine z_iload_n (pc := 8) F dX4_setLength_8 rfl 2 rfl ?_
  refine z_if_lt (pc := 9) (tgt := 18) F dX4_setLength_9 (by decide) (fun c9 => absurd c9 (nI_pos (by omega))) (fun c9 => ?_)
  refine z_iload_n (pc := 12) F dX4_setLength_12 rfl 2 rfl ?_
  refine z_bipush (pc := 13) (v := 8) F dX4_setLength_13 (by decide) ?_
  refine z_icmp_le (pc := 15) (tgt := 20) F dX4_setLength_15 (by decide) (fun c15 => ?_) (fun c15 => absurd (nI_le (b := 8) hn (by decide)) c15)
  refine z_iload_n (pc := 20) F dX4_setLength_20 rfl 2 rfl ?_
  refine z_istore_n (pc := 21) (lv' := [(0, .ref (r 0)), (1, .int (nI o)), (2, .int (nI nn)), (3, .int (nI nn))]) F dX4_setLength_21 rfl (by decide) [1, 2, 3, 0] rfl ?_
  have L22 : ∀ (N : Nat) (i : Nat), (8 - i) < N → (nn ≤ i) → (i ≤ 8) → Z X (0) (0) (sw E r (zBw S 6 (clrP (zb S 6) o nn i))) [(0, .ref (r 0)), (1, .int (nI o)), (2, .int (nI nn)), (3, .int (nI i))] 22 [] := by
    intro N
    induction N with
    | zero => intro i hN; exact absurd hN (Nat.not_lt_zero _)
    | succ N ih22 =>
      intro i hN hni hi
      refine z_iload_n (pc := 22) F dX4_setLength_22 rfl 3 rfl ?_
      refine z_bipush (pc := 23) (v := 8) F dX4_setLength_23 (by decide) ?_
      refine z_icmp_ge (pc := 25) (tgt := 46) F dX4_setLength_25 (by decide) (fun c25 => ?_) (fun c25 => ?_)
      · have hi8 : i = 8 := Nat.le_antisymm hi (gI (a := 8) (by decide) (by omega) c25)
        subst hi8
        refine z_aload_n (pc := 46) F dX4_setLength_46 rfl 0 rfl ?_
        refine z_get (pc := 47) (v := .ref (r 4)) F iX4 0 rfl rfl 3 (by decide) tw_103 rfl dX4_setLength_47 ?_
        refine z_iload_n (pc := 50) F dX4_setLength_50 rfl 1 rfl ?_
        refine z_iload_n (pc := 51) F dX4_setLength_51 rfl 2 rfl ?_
        refine z_iastN (pc := 52) (ws' := sw E r (zA (zBw S 6 (clrP (zb S 6) o nn 8)) 4 o (nI nn))) (f := za S 4) F 4 0 rfl rfl o rfl (by omega) (by decide) dX4_setLength_52 rfl ?_
        refine z_iconst (pc := 53) (v := 1) F dX4_setLength_53 (by decide) ?_
        exact z_zret (pc := 54) F hR rfl dX4_setLength_54 (Nat.le_of_ble_eq_true rfl) (Nat.le_of_ble_eq_true rfl) ⟨rfl, rfl⟩
      · have hi8 := ngI (a := 8) (by decide) (by omega) c25
        refine z_aload_n (pc := 28) F dX4_setLength_28 rfl 0 rfl ?_
        refine z_get (pc := 29) (v := .ref (r 6)) F iX4 0 rfl rfl 5 (by decide) tw_105 rfl dX4_setLength_29 ?_
        refine z_iload_n (pc := 32) F dX4_setLength_32 rfl 1 rfl ?_
        refine z_bipush (pc := 33) (v := 8) F dX4_setLength_33 (by decide) ?_
        refine z_imul (pc := 35) F dX4_setLength_35 ?_
        refine z_iload_n (pc := 36) F dX4_setLength_36 rfl 3 rfl ?_
        refine z_iadd (pc := 37) F dX4_setLength_37 ?_
        refine z_lconst (pc := 38) (v := 0) F dX4_setLength_38 (by decide) ?_
        refine z_lastN (pc := 39) (ws' := sw E r (zB (zBw S 6 (clrP (zb S 6) o nn i)) 6 (8 * o + i) 0)) (f := clrP (zb S 6) o nn i) F 6 1 rfl rfl (8 * o + i) ix8c (by omega) (by decide) dX4_setLength_39 rfl ?_
        refine z_iinc (pc := 40) (v := nI (i + 1)) (lv' := [(0, .ref (r 0)), (1, .int (nI o)), (2, .int (nI nn)), (3, .int (nI (i + 1)))]) F (j := 3) dX4_setLength_40 rfl (nI_1 _) (by decide) [1, 2, 3, 0] rfl ?_
        refine z_goto (pc := 43) (tgt := 22) F dX4_setLength_43 (by decide) ?_
        have hih := ih22 (i + 1) (by omega) (by omega) (by omega); rw [← clrP_s (zb S 6) hni] at hih; exact hih
  have L22z := L22 _ nn (Nat.lt_succ_self _) (Nat.le_refl _) hn
  rw [clrP_0] at L22z
  exact L22z
set_option maxHeartbeats 4000000 in
set_option maxRecDepth 100000 in
theorem c_X4_setLength_no (l : Launch) (E : zE) (r : Nat → Nat) (S : zS) (m : Nat) (o : Int32) (n : Int32) (hm : m ≤ 60) (hmo : zi S 0 = nI m) (hno : ¬ (thB m (za S 1) o = true ∧ 0 ≤ n ∧ n ≤ 8)) : Ct l yX4_setLength cX4_setLength 4 (some .boolean) ({ frames := 1, cells := 0, slots := 0, locals := 30 } : Room) E (sw E r S) [.ref (r 0), .int o, .int n] (fun v_ w_ => v_ = some (.int (bI false)) ∧ w_ = sw E r S) := by
  refine Ct.of (by decide) (Nat.le_of_ble_eq_true rfl) (lv := [(0, .ref (r 0)), (1, .int o), (2, .int n)]) rfl ?_
  intro X F hR
  have F : zF X l ({ frames := 1, cells := 0, slots := 0, locals := 30 } : Room) E cX4_setLength 4 "LiveQueries$Store" := F
  refine z_aload_n (pc := 0) F dX4_setLength_0 rfl 0 rfl ?_
  refine z_iload_n (pc := 1) F dX4_setLength_1 rfl 1 rfl ?_
  refine z_callVW (pc := 2) (q0 := 0) (ci := 4) (rest := []) F (c_X4_isThere l E r S m o hm hmo) 1 ww_Store_36 (by decide +kernel) rfl ⟨Nat.le_of_ble_eq_true rfl, Nat.le_of_ble_eq_true rfl⟩ ⟨Nat.le_of_ble_eq_true rfl, Nat.le_of_ble_eq_true rfl⟩ rfl rfl rfl rfl (Nat.le_of_ble_eq_true rfl) dX4_setLength_2 (fun v_ w1_ hp => ?_)
  obtain ⟨rfl, rfl⟩ := hp
  show Z X (0) (0) (sw E r S) [(0, .ref (r 0)), (1, .int o), (2, .int n)] 5 [.int (bI (thB m (za S 1) o))]
  refine z_if_eq (pc := 5) (tgt := 18) F dX4_setLength_5 (by decide) (fun c5 => ?_) (fun c5 => ?_)
  · replace c5 := bI_f c5
    refine z_iconst (pc := 18) (v := 0) F dX4_setLength_18 (by decide) ?_
    exact z_zret (pc := 19) F hR rfl dX4_setLength_19 (Nat.le_of_ble_eq_true rfl) (Nat.le_of_ble_eq_true rfl) ⟨rfl, rfl⟩
  · replace c5 := bI_t c5
    refine z_iload_n (pc := 8) F dX4_setLength_8 rfl 2 rfl ?_
    refine z_if_lt (pc := 9) (tgt := 18) F dX4_setLength_9 (by decide) (fun c9 => ?_) (fun c9 => ?_)
    · refine z_iconst (pc := 18) (v := 0) F dX4_setLength_18 (by decide) ?_
      exact z_zret (pc := 19) F hR rfl dX4_setLength_19 (Nat.le_of_ble_eq_true rfl) (Nat.le_of_ble_eq_true rfl) ⟨rfl, rfl⟩
    · refine z_iload_n (pc := 12) F dX4_setLength_12 rfl 2 rfl ?_
      refine z_bipush (pc := 13) (v := 8) F dX4_setLength_13 (by decide) ?_
      refine z_icmp_le (pc := 15) (tgt := 20) F dX4_setLength_15 (by decide) (fun c15 => ?_) (fun c15 => ?_)
      · exact absurd ⟨c5, i0n c9, c15⟩ hno
      · refine z_iconst (pc := 18) (v := 0) F dX4_setLength_18 (by decide) ?_
        exact z_zret (pc := 19) F hR rfl dX4_setLength_19 (Nat.le_of_ble_eq_true rfl) (Nat.le_of_ble_eq_true rfl) ⟨rfl, rfl⟩
set_option maxHeartbeats 4000000 in
set_option maxRecDepth 100000 in
theorem c_X4_setItem_ok (l : Launch) (E : zE) (r : Nat → Nat) (S : zS) (m : Nat) (o : Nat) (i : Nat) (v : Int64) (hm : m ≤ 60) (hmo : zi S 0 = nI m) (hom : o < m) (hi : ¬ (nI i).toInt64 < 0 ∧ ¬ (za S 4 o).toInt64 ≤ (nI i).toInt64) (hi8 : i < 8) : Ct l yX4_setItem cX4_setItem 5 (some .boolean) ({ frames := 1, cells := 0, slots := 0, locals := 30 } : Room) E (sw E r S) [.ref (r 0), .int (nI o), .int (nI i), .long v] (fun v_ w_ => v_ = some (.int (bI true)) ∧ w_ = sw E r (zB S 6 (8 * o + i) v)) := by
  refine Ct.of (by decide) (Nat.le_of_ble_eq_true rfl) (lv := [(0, .ref (r 0)), (1, .int (nI o)), (2, .int (nI i)), (3, .long v)]) rfl ?_
  intro X F hR
  have F : zF X l ({ frames := 1, cells := 0, slots := 0, locals := 30 } : Room) E cX4_setItem 5 "LiveQueries$Store" := F
  refine z_aload_n (pc := 0) F dX4_setItem_0 rfl 0 rfl ?_
  refine z_iload_n (pc := 1) F dX4_setItem_1 rfl 1 rfl ?_
  refine z_iload_n (pc := 2) F dX4_setItem_2 rfl 2 rfl ?_
  refine z_i2l (pc := 3) F dX4_setItem_3 ?_
  refine z_callVW (pc := 4) (q0 := 0) (ci := 4) (rest := []) F (c_X4_hasItem l E r S m (nI o) ((nI i).toInt64) hm hmo) 2 ww_Store_40 (by decide +kernel) rfl ⟨Nat.le_of_ble_eq_true rfl, Nat.le_of_ble_eq_true rfl⟩ ⟨Nat.le_of_ble_eq_true rfl, Nat.le_of_ble_eq_true rfl⟩ rfl rfl rfl rfl (Nat.le_of_ble_eq_true rfl) dX4_setItem_4 (fun v_ w1_ hp => ?_)
  obtain ⟨rfl, rfl⟩ := hp
  show Z X (0) (0) (sw E r S) [(0, .ref (r 0)), (1, .int (nI o)), (2, .int (nI i)), (3, .long v)] 7 [.int (bI (hasB m (za S 4) (nI o) ((nI i).toInt64)))]
  rw [show (bI (hasB m (za S 4) (nI o) ((nI i).toInt64))) = 1 from (by rw [hasB_nI (by omega) hom]; exact congrArg bI (decide_eq_true hi))]
  refine z_if_ne (pc := 7) (tgt := 12) F dX4_setItem_7 (by decide) (fun _ => ?_) (fun h => absurd h (by decide))
  refine z_aload_n (pc := 12) F dX4_setItem_12 rfl 0 rfl ?_
  refine z_get (pc := 13) (v := .ref (r 6)) F iX4 0 rfl rfl 5 (by decide) tw_105 rfl dX4_setItem_13 ?_
  refine z_iload_n (pc := 16) F dX4_setItem_16 rfl 1 rfl ?_
  refine z_bipush (pc := 17) (v := 8) F dX4_setItem_17 (by decide) ?_
  refine z_imul (pc := 19) F dX4_setItem_19 ?_
  refine z_iload_n (pc := 20) F dX4_setItem_20 rfl 2 rfl ?_
  refine z_iadd (pc := 21) F dX4_setItem_21 ?_
  refine z_lload_n (pc := 22) F dX4_setItem_22 rfl 3 rfl ?_
  refine z_lastN (pc := 23) (ws' := sw E r (zB S 6 (8 * o + i) v)) (f := zb S 6) F 6 1 rfl rfl (8 * o + i) ix8c (by omega) (by decide) dX4_setItem_23 rfl ?_
  refine z_iconst (pc := 24) (v := 1) F dX4_setItem_24 (by decide) ?_
  exact z_zret (pc := 25) F hR rfl dX4_setItem_25 (Nat.le_of_ble_eq_true rfl) (Nat.le_of_ble_eq_true rfl) ⟨rfl, rfl⟩
set_option maxHeartbeats 4000000 in
set_option maxRecDepth 100000 in
theorem c_X4_setItem_no (l : Launch) (E : zE) (r : Nat → Nat) (S : zS) (m : Nat) (o : Int32) (i : Int32) (v : Int64) (hm : m ≤ 60) (hmo : zi S 0 = nI m) (hno : hasB m (za S 4) o i.toInt64 = false) : Ct l yX4_setItem cX4_setItem 5 (some .boolean) ({ frames := 1, cells := 0, slots := 0, locals := 30 } : Room) E (sw E r S) [.ref (r 0), .int o, .int i, .long v] (fun v_ w_ => v_ = some (.int (bI false)) ∧ w_ = sw E r S) := by
  refine Ct.of (by decide) (Nat.le_of_ble_eq_true rfl) (lv := [(0, .ref (r 0)), (1, .int o), (2, .int i), (3, .long v)]) rfl ?_
  intro X F hR
  have F : zF X l ({ frames := 1, cells := 0, slots := 0, locals := 30 } : Room) E cX4_setItem 5 "LiveQueries$Store" := F
  refine z_aload_n (pc := 0) F dX4_setItem_0 rfl 0 rfl ?_
  refine z_iload_n (pc := 1) F dX4_setItem_1 rfl 1 rfl ?_
  refine z_iload_n (pc := 2) F dX4_setItem_2 rfl 2 rfl ?_
  refine z_i2l (pc := 3) F dX4_setItem_3 ?_
  refine z_callVW (pc := 4) (q0 := 0) (ci := 4) (rest := []) F (c_X4_hasItem l E r S m o (i.toInt64) hm hmo) 2 ww_Store_40 (by decide +kernel) rfl ⟨Nat.le_of_ble_eq_true rfl, Nat.le_of_ble_eq_true rfl⟩ ⟨Nat.le_of_ble_eq_true rfl, Nat.le_of_ble_eq_true rfl⟩ rfl rfl rfl rfl (Nat.le_of_ble_eq_true rfl) dX4_setItem_4 (fun v_ w1_ hp => ?_)
  obtain ⟨rfl, rfl⟩ := hp
  show Z X (0) (0) (sw E r S) [(0, .ref (r 0)), (1, .int o), (2, .int i), (3, .long v)] 7 [.int (bI (hasB m (za S 4) o (i.toInt64)))]
  rw [show (bI (hasB m (za S 4) o (i.toInt64))) = 0 from (congrArg bI hno)]
  refine z_if_ne (pc := 7) (tgt := 12) F dX4_setItem_7 (by decide) (fun h => absurd h (by decide)) (fun _ => ?_)
  refine z_iconst (pc := 10) (v := 0) F dX4_setItem_10 (by decide) ?_
  exact z_zret (pc := 11) F hR rfl dX4_setItem_11 (Nat.le_of_ble_eq_true rfl) (Nat.le_of_ble_eq_true rfl) ⟨rfl, rfl⟩
set_option maxHeartbeats 4000000 in
set_option maxRecDepth 100000 in
theorem c_X4_remove_ok (l : Launch) (E : zE) (r : Nat → Nat) (S : zS) (m : Nat) (o : Nat) (hm : m ≤ 60) (hmo : zi S 0 = nI m) (hom : o < m) (hth : ¬ za S 1 o = 0) : Ct l yX4_remove cX4_remove 3 (some .boolean) ({ frames := 1, cells := 0, slots := 0, locals := 30 } : Room) E (sw E r S) [.ref (r 0), .int (nI o)] (fun v_ w_ => v_ = some (.int (bI true)) ∧ w_ = sw E r (zAw (zA (zA S 1 o 0) 4 o 0) 3 (unref (za S 3) o m))) := by
  refine Ct.of (by decide) (Nat.le_of_ble_eq_true rfl) (lv := [(0, .ref (r 0)), (1, .int (nI o))]) rfl ?_
  intro X F hR
  have F : zF X l ({ frames := 1, cells := 0, slots := 0, locals := 30 } : Room) E cX4_remove 3 "LiveQueries$Store" := F
  refine z_aload_n (pc := 0) F dX4_remove_0 rfl 0 rfl ?_
  refine z_iload_n (pc := 1) F dX4_remove_1 rfl 1 rfl ?_
  refine z_callVW (pc := 2) (q0 := 0) (ci := 4) (rest := []) F (c_X4_isThere l E r S m (nI o) hm hmo) 1 ww_Store_36 (by decide +kernel) rfl ⟨Nat.le_of_ble_eq_true rfl, Nat.le_of_ble_eq_true rfl⟩ ⟨Nat.le_of_ble_eq_true rfl, Nat.le_of_ble_eq_true rfl⟩ rfl rfl rfl rfl (Nat.le_of_ble_eq_true rfl) dX4_remove_2 (fun v_ w1_ hp => ?_)
  obtain ⟨rfl, rfl⟩ := hp
  show Z X (0) (0) (sw E r S) [(0, .ref (r 0)), (1, .int (nI o))] 5 [.int (bI (thB m (za S 1) (nI o)))]
  rw [show (bI (thB m (za S 1) (nI o))) = 1 from (thB_1 (by omega) hom hth)]
  refine z_if_ne (pc := 5) (tgt := 10) F dX4_remove_5 (by decide) (fun _ => ?_) (fun h => absurd h (by decide))
  refine z_aload_n (pc := 10) F dX4_remove_10 rfl 0 rfl ?_
  refine z_get (pc := 11) (v := .ref (r 1)) F iX4 0 rfl rfl 0 (by decide) tw_100 rfl dX4_remove_11 ?_
  refine z_iload_n (pc := 14) F dX4_remove_14 rfl 1 rfl ?_
  refine z_iconst (pc := 15) (v := 0) F dX4_remove_15 (by decide) ?_
  refine z_zastN (pc := 16) (ws' := sw E r (zA S 1 o 0)) (f := za S 1) F 1 2 rfl rfl o rfl (by omega) (by decide) rfl dX4_remove_16 rfl ?_
  refine z_aload_n (pc := 17) F dX4_remove_17 rfl 0 rfl ?_
  refine z_get (pc := 18) (v := .ref (r 4)) F iX4 0 rfl rfl 3 (by decide) tw_103 rfl dX4_remove_18 ?_
  refine z_iload_n (pc := 21) F dX4_remove_21 rfl 1 rfl ?_
  refine z_iconst (pc := 22) (v := 0) F dX4_remove_22 (by decide) ?_
  refine z_iastN (pc := 23) (ws' := sw E r (zA (zA S 1 o 0) 4 o 0)) (f := za S 4) F 4 0 rfl rfl o rfl (by omega) (by decide) dX4_remove_23 rfl ?_
  refine z_iconst (pc := 24) (v := 0) F dX4_remove_24 (by decide) ?_
  refine z_istore_n (pc := 25) (lv' := [(0, .ref (r 0)), (1, .int (nI o)), (2, .int 0)]) F dX4_remove_25 rfl (by decide) [1, 2, 0] rfl ?_
  have L26 : ∀ (N : Nat) (i : Nat), (m - i) < N → (i ≤ m) → Z X (0) (0) (sw E r (zAw (zA (zA S 1 o 0) 4 o 0) 3 (unref (za S 3) o i))) [(0, .ref (r 0)), (1, .int (nI o)), (2, .int (nI i))] 26 [] := by
    intro N
    induction N with
    | zero => intro i hN; exact absurd hN (Nat.not_lt_zero _)
    | succ N ih26 =>
      intro i hN hi
      refine z_iload_n (pc := 26) F dX4_remove_26 rfl 2 rfl ?_
      refine z_aload_n (pc := 27) F dX4_remove_27 rfl 0 rfl ?_
      refine z_get (pc := 28) (v := .int (zi S 0)) F iX4 0 rfl rfl 6 (by decide) tw_106 rfl dX4_remove_28 ?_
      rw [show (zi S 0) = nI m from hmo]
      refine z_icmp_ge (pc := 31) (tgt := 57) F dX4_remove_31 (by decide) (fun c31 => ?_) (fun c31 => ?_)
      · have hie : i = m := Nat.le_antisymm hi (gI (by omega) (by omega) c31)
        subst hie
        refine z_iconst (pc := 57) (v := 1) F dX4_remove_57 (by decide) ?_
        exact z_zret (pc := 58) F hR rfl dX4_remove_58 (Nat.le_of_ble_eq_true rfl) (Nat.le_of_ble_eq_true rfl) ⟨rfl, rfl⟩
      · have hil := ngI (by omega) (by omega) c31
        refine z_aload_n (pc := 34) F dX4_remove_34 rfl 0 rfl ?_
        refine z_get (pc := 35) (v := .ref (r 3)) F iX4 0 rfl rfl 2 (by decide) tw_102 rfl dX4_remove_35 ?_
        refine z_iload_n (pc := 38) F dX4_remove_38 rfl 2 rfl ?_
        refine z_ialdN (pc := 39) (f := unref (za S 3) o i) F 3 0 rfl rfl i rfl (by omega) (by decide) dX4_remove_39 ?_
        rw [show ((unref (za S 3) o i) i) = za S 3 i from (unref_at _ _ _)]
        refine z_iload_n (pc := 40) F dX4_remove_40 rfl 1 rfl ?_
        refine z_icmp_ne (pc := 41) (tgt := 51) F dX4_remove_41 (by decide) (fun c41 => ?_) (fun c41 => ?_)
        · refine z_iinc (pc := 51) (v := nI (i + 1)) (lv' := [(0, .ref (r 0)), (1, .int (nI o)), (2, .int (nI (i + 1)))]) F (j := 2) dX4_remove_51 rfl (nI_1 _) (by decide) [1, 2, 0] rfl ?_
          refine z_goto (pc := 54) (tgt := 26) F dX4_remove_54 (by decide) ?_
          have hih := ih26 (i + 1) (by omega) (by omega); rw [unref_n c41] at hih; exact hih
        · refine z_aload_n (pc := 44) F dX4_remove_44 rfl 0 rfl ?_
          refine z_get (pc := 45) (v := .ref (r 3)) F iX4 0 rfl rfl 2 (by decide) tw_102 rfl dX4_remove_45 ?_
          refine z_iload_n (pc := 48) F dX4_remove_48 rfl 2 rfl ?_
          refine z_iconst (pc := 49) (v := (-1)) F dX4_remove_49 (by decide) ?_
          refine z_iastN (pc := 50) (ws' := sw E r (zA (zAw (zA (zA S 1 o 0) 4 o 0) 3 (unref (za S 3) o i)) 3 i (-1))) (f := unref (za S 3) o i) F 3 0 rfl rfl i rfl (by omega) (by decide) dX4_remove_50 rfl ?_
          refine z_iinc (pc := 51) (v := nI (i + 1)) (lv' := [(0, .ref (r 0)), (1, .int (nI o)), (2, .int (nI (i + 1)))]) F (j := 2) dX4_remove_51 rfl (nI_1 _) (by decide) [1, 2, 0] rfl ?_
          refine z_goto (pc := 54) (tgt := 26) F dX4_remove_54 (by decide) ?_
          have hih := ih26 (i + 1) (by omega) (by omega); rw [← unref_y c41] at hih; exact hih
  have L26z := L26 _ 0 (Nat.lt_succ_self _) (Nat.zero_le _)
  rw [unref_0] at L26z
  exact L26z
set_option maxHeartbeats 4000000 in
set_option maxRecDepth 100000 in
theorem c_X4_remove_no (l : Launch) (E : zE) (r : Nat → Nat) (S : zS) (m : Nat) (o : Int32) (hm : m ≤ 60) (hmo : zi S 0 = nI m) (hno : ¬ thB m (za S 1) o = true) : Ct l yX4_remove cX4_remove 3 (some .boolean) ({ frames := 1, cells := 0, slots := 0, locals := 30 } : Room) E (sw E r S) [.ref (r 0), .int o] (fun v_ w_ => v_ = some (.int (bI false)) ∧ w_ = sw E r S) := by
  refine Ct.of (by decide) (Nat.le_of_ble_eq_true rfl) (lv := [(0, .ref (r 0)), (1, .int o)]) rfl ?_
  intro X F hR
  have F : zF X l ({ frames := 1, cells := 0, slots := 0, locals := 30 } : Room) E cX4_remove 3 "LiveQueries$Store" := F
  refine z_aload_n (pc := 0) F dX4_remove_0 rfl 0 rfl ?_
  refine z_iload_n (pc := 1) F dX4_remove_1 rfl 1 rfl ?_
  refine z_callVW (pc := 2) (q0 := 0) (ci := 4) (rest := []) F (c_X4_isThere l E r S m o hm hmo) 1 ww_Store_36 (by decide +kernel) rfl ⟨Nat.le_of_ble_eq_true rfl, Nat.le_of_ble_eq_true rfl⟩ ⟨Nat.le_of_ble_eq_true rfl, Nat.le_of_ble_eq_true rfl⟩ rfl rfl rfl rfl (Nat.le_of_ble_eq_true rfl) dX4_remove_2 (fun v_ w1_ hp => ?_)
  obtain ⟨rfl, rfl⟩ := hp
  show Z X (0) (0) (sw E r S) [(0, .ref (r 0)), (1, .int o)] 5 [.int (bI (thB m (za S 1) o))]
  refine z_if_ne (pc := 5) (tgt := 10) F dX4_remove_5 (by decide) (fun c5 => ?_) (fun c5 => ?_)
  · replace c5 := bI_t c5
    exact absurd c5 hno
  · replace c5 := bI_f c5
    refine z_iconst (pc := 8) (v := 0) F dX4_remove_8 (by decide) ?_
    exact z_zret (pc := 9) F hR rfl dX4_remove_9 (Nat.le_of_ble_eq_true rfl) (Nat.le_of_ble_eq_true rfl) ⟨rfl, rfl⟩
set_option maxHeartbeats 4000000 in
set_option maxRecDepth 100000 in
theorem c_X4_isOfKind (l : Launch) (E : zE) (r : Nat → Nat) (S : zS) (m : Nat) (o : Nat) (kd : Int32) (hm : m ≤ 60) (hmo : zi S 0 = nI m) (hom : o < m) : Ct l yX4_isOfKind cX4_isOfKind 3 (some .boolean) ({ frames := 1, cells := 0, slots := 0, locals := 30 } : Room) E (sw E r S) [.ref (r 0), .int (nI o), .int kd] (fun v_ w_ => v_ = some (.int (bI (decide (¬ za S 1 o = 0) && decide (za S 2 o = kd)))) ∧ w_ = sw E r S) := by
  refine Ct.of (by decide) (Nat.le_of_ble_eq_true rfl) (lv := [(0, .ref (r 0)), (1, .int (nI o)), (2, .int kd)]) rfl ?_
  intro X F hR
  have F : zF X l ({ frames := 1, cells := 0, slots := 0, locals := 30 } : Room) E cX4_isOfKind 3 "LiveQueries$Store" := F
  refine z_aload_n (pc := 0) F dX4_isOfKind_0 rfl 0 rfl ?_
  refine z_iload_n (pc := 1) F dX4_isOfKind_1 rfl 1 rfl ?_
  refine z_callVW (pc := 2) (q0 := 0) (ci := 4) (rest := []) F (c_X4_isThere l E r S m (nI o) hm hmo) 1 ww_Store_36 (by decide +kernel) rfl ⟨Nat.le_of_ble_eq_true rfl, Nat.le_of_ble_eq_true rfl⟩ ⟨Nat.le_of_ble_eq_true rfl, Nat.le_of_ble_eq_true rfl⟩ rfl rfl rfl rfl (Nat.le_of_ble_eq_true rfl) dX4_isOfKind_2 (fun v_ w1_ hp => ?_)
  obtain ⟨rfl, rfl⟩ := hp
  show Z X (0) (0) (sw E r S) [(0, .ref (r 0)), (1, .int (nI o)), (2, .int kd)] 5 [.int (bI (thB m (za S 1) (nI o)))]
  rw [show (bI (thB m (za S 1) (nI o))) = bI (decide (¬ za S 1 o = 0)) from (by rw [thB_nI (by omega) hom])]
  refine z_if_eq (pc := 5) (tgt := 22) F dX4_isOfKind_5 (by decide) (fun c5 => ?_) (fun c5 => ?_)
  · replace c5 := bI_f c5
    refine z_iconst (pc := 22) (v := 0) F dX4_isOfKind_22 (by decide) ?_
    exact z_zret (pc := 23) F hR rfl dX4_isOfKind_23 (Nat.le_of_ble_eq_true rfl) (Nat.le_of_ble_eq_true rfl) ⟨by first | (rw [c5, Bool.false_and]; rfl) | (rw [c5, show decide (za S 2 o = kd) = false from decide_eq_false c15]; rfl), rfl⟩
  · replace c5 := bI_t c5
    refine z_aload_n (pc := 8) F dX4_isOfKind_8 rfl 0 rfl ?_
    refine z_get (pc := 9) (v := .ref (r 2)) F iX4 0 rfl rfl 1 (by decide) tw_101 rfl dX4_isOfKind_9 ?_
    refine z_iload_n (pc := 12) F dX4_isOfKind_12 rfl 1 rfl ?_
    refine z_ialdN (pc := 13) (f := za S 2) F 2 0 rfl rfl o rfl (by omega) (by decide) dX4_isOfKind_13 ?_
    refine z_iload_n (pc := 14) F dX4_isOfKind_14 rfl 2 rfl ?_
    refine z_icmp_ne (pc := 15) (tgt := 22) F dX4_isOfKind_15 (by decide) (fun c15 => ?_) (fun c15 => ?_)
    · refine z_iconst (pc := 22) (v := 0) F dX4_isOfKind_22 (by decide) ?_
      exact z_zret (pc := 23) F hR rfl dX4_isOfKind_23 (Nat.le_of_ble_eq_true rfl) (Nat.le_of_ble_eq_true rfl) ⟨by first | (rw [c5, Bool.false_and]; rfl) | (rw [c5, show decide (za S 2 o = kd) = false from decide_eq_false c15]; rfl), rfl⟩
    · refine z_iconst (pc := 18) (v := 1) F dX4_isOfKind_18 (by decide) ?_
      refine z_goto (pc := 19) (tgt := 23) F dX4_isOfKind_19 (by decide) ?_
      exact z_zret (pc := 23) F hR rfl dX4_isOfKind_23 (Nat.le_of_ble_eq_true rfl) (Nat.le_of_ble_eq_true rfl) ⟨by rw [c5, show decide (za S 2 o = kd) = true from decide_eq_true c15]; rfl, rfl⟩
set_option maxHeartbeats 4000000 in
set_option maxRecDepth 100000 in
theorem c_X4_kindOf_s (l : Launch) (E : zE) (r : Nat → Nat) (S : zS) (m : Nat) (o : Nat) (hm : m ≤ 60) (hmo : zi S 0 = nI m) (hom : o < m) (hth : ¬ za S 1 o = 0) : Ct l yX4_kindOf cX4_kindOf 2 (some .int) ({ frames := 1, cells := 0, slots := 0, locals := 30 } : Room) E (sw E r S) [.ref (r 0), .int (nI o)] (fun v_ w_ => v_ = some (.int (za S 2 o)) ∧ w_ = sw E r S) := by
  refine Ct.of (by decide) (Nat.le_of_ble_eq_true rfl) (lv := [(0, .ref (r 0)), (1, .int (nI o))]) rfl ?_
  intro X F hR
  have F : zF X l ({ frames := 1, cells := 0, slots := 0, locals := 30 } : Room) E cX4_kindOf 2 "LiveQueries$Store" := F
  refine z_aload_n (pc := 0) F dX4_kindOf_0 rfl 0 rfl ?_
  refine z_iload_n (pc := 1) F dX4_kindOf_1 rfl 1 rfl ?_
  refine z_callVW (pc := 2) (q0 := 0) (ci := 4) (rest := []) F (c_X4_isThere l E r S m (nI o) hm hmo) 1 ww_Store_36 (by decide +kernel) rfl ⟨Nat.le_of_ble_eq_true rfl, Nat.le_of_ble_eq_true rfl⟩ ⟨Nat.le_of_ble_eq_true rfl, Nat.le_of_ble_eq_true rfl⟩ rfl rfl rfl rfl (Nat.le_of_ble_eq_true rfl) dX4_kindOf_2 (fun v_ w1_ hp => ?_)
  obtain ⟨rfl, rfl⟩ := hp
  show Z X (0) (0) (sw E r S) [(0, .ref (r 0)), (1, .int (nI o))] 5 [.int (bI (thB m (za S 1) (nI o)))]
  rw [show (bI (thB m (za S 1) (nI o))) = 1 from (thB_1 (by omega) hom hth)]
  refine z_if_eq (pc := 5) (tgt := 17) F dX4_kindOf_5 (by decide) (fun h => absurd h (by decide)) (fun _ => ?_)
  refine z_aload_n (pc := 8) F dX4_kindOf_8 rfl 0 rfl ?_
  refine z_get (pc := 9) (v := .ref (r 2)) F iX4 0 rfl rfl 1 (by decide) tw_101 rfl dX4_kindOf_9 ?_
  refine z_iload_n (pc := 12) F dX4_kindOf_12 rfl 1 rfl ?_
  refine z_ialdN (pc := 13) (f := za S 2) F 2 0 rfl rfl o rfl (by omega) (by decide) dX4_kindOf_13 ?_
  refine z_goto (pc := 14) (tgt := 18) F dX4_kindOf_14 (by decide) ?_
  exact z_iret (pc := 18) F hR dX4_kindOf_18 (Nat.le_of_ble_eq_true rfl) (Nat.le_of_ble_eq_true rfl) ⟨rfl, rfl⟩
set_option maxHeartbeats 4000000 in
set_option maxRecDepth 100000 in
theorem c_X4_referenceOf_s (l : Launch) (E : zE) (r : Nat → Nat) (S : zS) (m : Nat) (o : Nat) (hm : m ≤ 60) (hmo : zi S 0 = nI m) (hom : o < m) (hth : ¬ za S 1 o = 0) : Ct l yX4_referenceOf cX4_referenceOf 2 (some .int) ({ frames := 1, cells := 0, slots := 0, locals := 30 } : Room) E (sw E r S) [.ref (r 0), .int (nI o)] (fun v_ w_ => v_ = some (.int (za S 3 o)) ∧ w_ = sw E r S) := by
  refine Ct.of (by decide) (Nat.le_of_ble_eq_true rfl) (lv := [(0, .ref (r 0)), (1, .int (nI o))]) rfl ?_
  intro X F hR
  have F : zF X l ({ frames := 1, cells := 0, slots := 0, locals := 30 } : Room) E cX4_referenceOf 2 "LiveQueries$Store" := F
  refine z_aload_n (pc := 0) F dX4_referenceOf_0 rfl 0 rfl ?_
  refine z_iload_n (pc := 1) F dX4_referenceOf_1 rfl 1 rfl ?_
  refine z_callVW (pc := 2) (q0 := 0) (ci := 4) (rest := []) F (c_X4_isThere l E r S m (nI o) hm hmo) 1 ww_Store_36 (by decide +kernel) rfl ⟨Nat.le_of_ble_eq_true rfl, Nat.le_of_ble_eq_true rfl⟩ ⟨Nat.le_of_ble_eq_true rfl, Nat.le_of_ble_eq_true rfl⟩ rfl rfl rfl rfl (Nat.le_of_ble_eq_true rfl) dX4_referenceOf_2 (fun v_ w1_ hp => ?_)
  obtain ⟨rfl, rfl⟩ := hp
  show Z X (0) (0) (sw E r S) [(0, .ref (r 0)), (1, .int (nI o))] 5 [.int (bI (thB m (za S 1) (nI o)))]
  rw [show (bI (thB m (za S 1) (nI o))) = 1 from (thB_1 (by omega) hom hth)]
  refine z_if_eq (pc := 5) (tgt := 17) F dX4_referenceOf_5 (by decide) (fun h => absurd h (by decide)) (fun _ => ?_)
  refine z_aload_n (pc := 8) F dX4_referenceOf_8 rfl 0 rfl ?_
  refine z_get (pc := 9) (v := .ref (r 3)) F iX4 0 rfl rfl 2 (by decide) tw_102 rfl dX4_referenceOf_9 ?_
  refine z_iload_n (pc := 12) F dX4_referenceOf_12 rfl 1 rfl ?_
  refine z_ialdN (pc := 13) (f := za S 3) F 3 0 rfl rfl o rfl (by omega) (by decide) dX4_referenceOf_13 ?_
  refine z_goto (pc := 14) (tgt := 18) F dX4_referenceOf_14 (by decide) ?_
  exact z_iret (pc := 18) F hR dX4_referenceOf_18 (Nat.le_of_ble_eq_true rfl) (Nat.le_of_ble_eq_true rfl) ⟨rfl, rfl⟩
set_option maxHeartbeats 4000000 in
set_option maxRecDepth 100000 in
theorem c_X4_partOf_s (l : Launch) (E : zE) (r : Nat → Nat) (S : zS) (m : Nat) (o : Nat) (p : Nat) (hm : m ≤ 60) (hmo : zi S 0 = nI m) (hom : o < m) (hth : ¬ za S 1 o = 0) (hp : p < 3) : Ct l yX4_partOf cX4_partOf 4 (some .long) ({ frames := 1, cells := 0, slots := 0, locals := 30 } : Room) E (sw E r S) [.ref (r 0), .int (nI o), .int (nI p)] (fun v_ w_ => v_ = some (.long (zb S 5 (3 * o + p))) ∧ w_ = sw E r S) := by
  refine Ct.of (by decide) (Nat.le_of_ble_eq_true rfl) (lv := [(0, .ref (r 0)), (1, .int (nI o)), (2, .int (nI p))]) rfl ?_
  intro X F hR
  have F : zF X l ({ frames := 1, cells := 0, slots := 0, locals := 30 } : Room) E cX4_partOf 4 "LiveQueries$Store" := F
  refine z_aload_n (pc := 0) F dX4_partOf_0 rfl 0 rfl ?_
  refine z_iload_n (pc := 1) F dX4_partOf_1 rfl 1 rfl ?_
  refine z_callVW (pc := 2) (q0 := 0) (ci := 4) (rest := []) F (c_X4_isThere l E r S m (nI o) hm hmo) 1 ww_Store_36 (by decide +kernel) rfl ⟨Nat.le_of_ble_eq_true rfl, Nat.le_of_ble_eq_true rfl⟩ ⟨Nat.le_of_ble_eq_true rfl, Nat.le_of_ble_eq_true rfl⟩ rfl rfl rfl rfl (Nat.le_of_ble_eq_true rfl) dX4_partOf_2 (fun v_ w1_ hp => ?_)
  obtain ⟨rfl, rfl⟩ := hp
  show Z X (0) (0) (sw E r S) [(0, .ref (r 0)), (1, .int (nI o)), (2, .int (nI p))] 5 [.int (bI (thB m (za S 1) (nI o)))]
  rw [show (bI (thB m (za S 1) (nI o))) = 1 from (thB_1 (by omega) hom hth)]
  refine z_if_eq (pc := 5) (tgt := 21) F dX4_partOf_5 (by decide) (fun h => absurd h (by decide)) (fun _ => ?_)
  refine z_iload_n (pc := 8) F dX4_partOf_8 rfl 2 rfl ?_
  refine z_if_lt (pc := 9) (tgt := 21) F dX4_partOf_9 (by decide) (fun c9 => absurd c9 (nI_pos (by omega))) (fun c9 => ?_)
  refine z_iload_n (pc := 12) F dX4_partOf_12 rfl 2 rfl ?_
  refine z_iconst (pc := 13) (v := 3) F dX4_partOf_13 (by decide) ?_
  refine z_icmp_ge (pc := 14) (tgt := 21) F dX4_partOf_14 (by decide) (fun c14 => absurd c14 (fun h => absurd (gI (a := 3) (by decide) (by omega) h) (by omega))) (fun c14 => ?_)
  refine z_iconst (pc := 17) (v := 1) F dX4_partOf_17 (by decide) ?_
  refine z_goto (pc := 18) (tgt := 22) F dX4_partOf_18 (by decide) ?_
  refine z_istore_n (pc := 22) (lv' := [(0, .ref (r 0)), (1, .int (nI o)), (2, .int (nI p)), (3, .int 1)]) F dX4_partOf_22 rfl (by decide) [1, 2, 3, 0] rfl ?_
  refine z_iload_n (pc := 23) F dX4_partOf_23 rfl 3 rfl ?_
  refine z_if_eq (pc := 24) (tgt := 40) F dX4_partOf_24 (by decide) (fun h => absurd h (by decide)) (fun _ => ?_)
  refine z_aload_n (pc := 27) F dX4_partOf_27 rfl 0 rfl ?_
  refine z_get (pc := 28) (v := .ref (r 5)) F iX4 0 rfl rfl 4 (by decide) tw_104 rfl dX4_partOf_28 ?_
  refine z_iload_n (pc := 31) F dX4_partOf_31 rfl 1 rfl ?_
  refine z_iconst (pc := 32) (v := 3) F dX4_partOf_32 (by decide) ?_
  refine z_imul (pc := 33) F dX4_partOf_33 ?_
  refine z_iload_n (pc := 34) F dX4_partOf_34 rfl 2 rfl ?_
  refine z_iadd (pc := 35) F dX4_partOf_35 ?_
  refine z_laldN (pc := 36) (f := zb S 5) F 5 1 rfl rfl (3 * o + p) ix3c (by omega) (by decide) dX4_partOf_36 ?_
  refine z_goto (pc := 37) (tgt := 41) F dX4_partOf_37 (by decide) ?_
  exact z_lret (pc := 41) F hR dX4_partOf_41 (Nat.le_of_ble_eq_true rfl) (Nat.le_of_ble_eq_true rfl) ⟨rfl, rfl⟩
set_option maxHeartbeats 4000000 in
set_option maxRecDepth 100000 in
theorem c_X4_lengthOf_s (l : Launch) (E : zE) (r : Nat → Nat) (S : zS) (m : Nat) (o : Nat) (hm : m ≤ 60) (hmo : zi S 0 = nI m) (hom : o < m) : Ct l yX4_lengthOf cX4_lengthOf 2 (some .int) ({ frames := 1, cells := 0, slots := 0, locals := 30 } : Room) E (sw E r S) [.ref (r 0), .int (nI o)] (fun v_ w_ => v_ = some (.int (za S 4 o)) ∧ w_ = sw E r S) := by
  refine Ct.of (by decide) (Nat.le_of_ble_eq_true rfl) (lv := [(0, .ref (r 0)), (1, .int (nI o))]) rfl ?_
  intro X F hR
  have F : zF X l ({ frames := 1, cells := 0, slots := 0, locals := 30 } : Room) E cX4_lengthOf 2 "LiveQueries$Store" := F
  refine z_iload_n (pc := 0) F dX4_lengthOf_0 rfl 1 rfl ?_
  refine z_if_lt (pc := 1) (tgt := 21) F dX4_lengthOf_1 (by decide) (fun c1 => absurd c1 (nI_pos (by omega))) (fun c1 => ?_)
  refine z_iload_n (pc := 4) F dX4_lengthOf_4 rfl 1 rfl ?_
  refine z_aload_n (pc := 5) F dX4_lengthOf_5 rfl 0 rfl ?_
  refine z_get (pc := 6) (v := .int (zi S 0)) F iX4 0 rfl rfl 6 (by decide) tw_106 rfl dX4_lengthOf_6 ?_
  rw [show (zi S 0) = nI m from hmo]
  refine z_icmp_ge (pc := 9) (tgt := 21) F dX4_lengthOf_9 (by decide) (fun c9 => absurd c9 (fun h => absurd (gI (by omega) (by omega) h) (by omega))) (fun c9 => ?_)
  refine z_aload_n (pc := 12) F dX4_lengthOf_12 rfl 0 rfl ?_
  refine z_get (pc := 13) (v := .ref (r 4)) F iX4 0 rfl rfl 3 (by decide) tw_103 rfl dX4_lengthOf_13 ?_
  refine z_iload_n (pc := 16) F dX4_lengthOf_16 rfl 1 rfl ?_
  refine z_ialdN (pc := 17) (f := za S 4) F 4 0 rfl rfl o rfl (by omega) (by decide) dX4_lengthOf_17 ?_
  refine z_goto (pc := 18) (tgt := 22) F dX4_lengthOf_18 (by decide) ?_
  exact z_iret (pc := 22) F hR dX4_lengthOf_22 (Nat.le_of_ble_eq_true rfl) (Nat.le_of_ble_eq_true rfl) ⟨rfl, rfl⟩
set_option maxHeartbeats 4000000 in
set_option maxRecDepth 100000 in
theorem c_X4_itemOf_s (l : Launch) (E : zE) (r : Nat → Nat) (S : zS) (m : Nat) (o : Nat) (i : Nat) (hm : m ≤ 60) (hmo : zi S 0 = nI m) (hom : o < m) (hi : ¬ (nI i).toInt64 < 0 ∧ ¬ (za S 4 o).toInt64 ≤ (nI i).toInt64) (hi8 : i < 8) : Ct l yX4_itemOf cX4_itemOf 3 (some .long) ({ frames := 1, cells := 0, slots := 0, locals := 30 } : Room) E (sw E r S) [.ref (r 0), .int (nI o), .int (nI i)] (fun v_ w_ => v_ = some (.long (zb S 6 (8 * o + i))) ∧ w_ = sw E r S) := by
  refine Ct.of (by decide) (Nat.le_of_ble_eq_true rfl) (lv := [(0, .ref (r 0)), (1, .int (nI o)), (2, .int (nI i))]) rfl ?_
  intro X F hR
  have F : zF X l ({ frames := 1, cells := 0, slots := 0, locals := 30 } : Room) E cX4_itemOf 3 "LiveQueries$Store" := F
  refine z_aload_n (pc := 0) F dX4_itemOf_0 rfl 0 rfl ?_
  refine z_iload_n (pc := 1) F dX4_itemOf_1 rfl 1 rfl ?_
  refine z_iload_n (pc := 2) F dX4_itemOf_2 rfl 2 rfl ?_
  refine z_i2l (pc := 3) F dX4_itemOf_3 ?_
  refine z_callVW (pc := 4) (q0 := 0) (ci := 4) (rest := []) F (c_X4_hasItem l E r S m (nI o) ((nI i).toInt64) hm hmo) 2 ww_Store_40 (by decide +kernel) rfl ⟨Nat.le_of_ble_eq_true rfl, Nat.le_of_ble_eq_true rfl⟩ ⟨Nat.le_of_ble_eq_true rfl, Nat.le_of_ble_eq_true rfl⟩ rfl rfl rfl rfl (Nat.le_of_ble_eq_true rfl) dX4_itemOf_4 (fun v_ w1_ hp => ?_)
  obtain ⟨rfl, rfl⟩ := hp
  show Z X (0) (0) (sw E r S) [(0, .ref (r 0)), (1, .int (nI o)), (2, .int (nI i))] 7 [.int (bI (hasB m (za S 4) (nI o) ((nI i).toInt64)))]
  rw [show (bI (hasB m (za S 4) (nI o) ((nI i).toInt64))) = 1 from (by rw [hasB_nI (by omega) hom]; exact congrArg bI (decide_eq_true hi))]
  refine z_if_eq (pc := 7) (tgt := 24) F dX4_itemOf_7 (by decide) (fun h => absurd h (by decide)) (fun _ => ?_)
  refine z_aload_n (pc := 10) F dX4_itemOf_10 rfl 0 rfl ?_
  refine z_get (pc := 11) (v := .ref (r 6)) F iX4 0 rfl rfl 5 (by decide) tw_105 rfl dX4_itemOf_11 ?_
  refine z_iload_n (pc := 14) F dX4_itemOf_14 rfl 1 rfl ?_
  refine z_bipush (pc := 15) (v := 8) F dX4_itemOf_15 (by decide) ?_
  refine z_imul (pc := 17) F dX4_itemOf_17 ?_
  refine z_iload_n (pc := 18) F dX4_itemOf_18 rfl 2 rfl ?_
  refine z_iadd (pc := 19) F dX4_itemOf_19 ?_
  refine z_laldN (pc := 20) (f := zb S 6) F 6 1 rfl rfl (8 * o + i) ix8c (by omega) (by decide) dX4_itemOf_20 ?_
  refine z_goto (pc := 21) (tgt := 25) F dX4_itemOf_21 (by decide) ?_
  exact z_lret (pc := 25) F hR dX4_itemOf_25 (Nat.le_of_ble_eq_true rfl) (Nat.le_of_ble_eq_true rfl) ⟨rfl, rfl⟩

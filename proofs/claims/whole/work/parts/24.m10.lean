set_option maxHeartbeats 4000000 in
set_option maxRecDepth 100000 in
theorem c_X8_isQuery (l : Launch) (E : zE) (r : Nat → Nat) (S : zS) (nq : Nat) (q : Int32) (hnq : zi S 3 = nI nq) : Ct l yX8_isQuery cX8_isQuery 2 (some .boolean) ({ frames := 1, cells := 0, slots := 0, locals := 22 } : Room) E (mw E r S) [.ref (r 0), .int q] (fun v_ w_ => v_ = some (.int (bI (decide (0 ≤ q ∧ q ≤ nI nq - 1)))) ∧ w_ = mw E r S) := by
  refine Ct.of (by decide) (Nat.le_of_ble_eq_true rfl) (lv := [(0, .ref (r 0)), (1, .int q)]) rfl ?_
  intro X F hR
  have F : zF X l ({ frames := 1, cells := 0, slots := 0, locals := 22 } : Room) E cX8_isQuery 2 "LiveQueriesModel" := F
  refine z_iload_n (pc := 0) F dX8_isQuery_0 rfl 1 rfl ?_
  refine z_iconst (pc := 1) (v := 0) F dX8_isQuery_1 (by decide) ?_
  refine z_aload_n (pc := 2) F dX8_isQuery_2 rfl 0 rfl ?_
  refine z_get (pc := 3) (v := .int (zi S 3)) F iX8 0 rfl rfl 10 (by decide) tw_868 rfl dX8_isQuery_3 ?_
  rw [show (zi S 3) = nI nq from hnq]
  refine z_iconst (pc := 6) (v := 1) F dX8_isQuery_6 (by decide) ?_
  refine z_isub (pc := 7) F dX8_isQuery_7 ?_
  refine z_callS0 (pc := 8) (rest := []) F (c_X8_within l E q 0 ((nI nq) - 1)) 3 ww_Model_97 (by decide +kernel) rfl ⟨Nat.le_of_ble_eq_true rfl, Nat.le_of_ble_eq_true rfl⟩ ⟨Nat.le_of_ble_eq_true rfl, Nat.le_of_ble_eq_true rfl⟩ rfl (Nat.le_of_ble_eq_true rfl) dX8_isQuery_8 (fun v_ w1_ hp => ?_)
  obtain ⟨rfl, rfl⟩ := hp
  show Z X (0) (0) (mw E r S) [(0, .ref (r 0)), (1, .int q)] 11 [.int (bI (decide (0 ≤ q ∧ q ≤ ((nI nq) - 1))))]
  exact z_zret (pc := 11) F hR (bI_nb _) dX8_isQuery_11 (Nat.le_of_ble_eq_true rfl) (Nat.le_of_ble_eq_true rfl) ⟨rfl, rfl⟩
set_option maxHeartbeats 4000000 in
set_option maxRecDepth 100000 in
theorem c_X8_size_ok (l : Launch) (E : zE) (r : Nat → Nat) (S : zS) (m : Nat) (nq : Nat) (q : Nat) (e : Nat → Nat) (c : Nat) (w : Int32) (hm : m ≤ 60) (hmo : zi S 2 = nI m) (hnq : nq ≤ 6) (hn3 : zi S 3 = nI nq) (hq : q < nq) (hqo : qok S q e) (ho : objOk S) (hc : za S 9 q = nI c) (hc2 : c < 100) : Ct l yX8_size cX8_size 3 (some .int) ({ frames := 6, cells := 0, slots := 0, locals := 200 } : Room) E (mw E r S) [.ref (r 0), .int (nI q), .int w] (fun v_ w_ => ∃ hh : Int32, ∃ ab : Int32, ∃ f : Nat → Int64, ∃ hg : Nat → Int32, ∃ md : Nat → Int64, ∃ row : Nat → Int32, ∃ key : Nat → Int64, ∃ grp : Nat → Int64, ∃ sm : Nat → Int64, ∃ va : Nat → Int64, ∃ mn : Nat → Int32, ∃ lo : Nat → Int64, ∃ hi : Nat → Int64, v_ = some (.int (if w = 0 then nI (shN c (fL S q e m).length) else if w = 1 then nI (fL S q e m).length else if w = 2 then nI (gL (fL S q e m)).length else -1)) ∧ w_ = mw E r (mfg (zI S 0 0) hh ab f hg md (nI (fL S q e m).length) row key grp sm (nI (gL (fL S q e m)).length) va mn lo hi)) := by
  refine Ct.of (by decide) (Nat.le_of_ble_eq_true rfl) (lv := [(0, .ref (r 0)), (1, .int (nI q)), (2, .int w)]) rfl ?_
  intro X F hR
  have F : zF X l ({ frames := 6, cells := 0, slots := 0, locals := 200 } : Room) E cX8_size 3 "LiveQueriesModel" := F
  refine z_aload_n (pc := 0) F dX8_size_0 rfl 0 rfl ?_
  refine z_iconst (pc := 1) (v := 0) F dX8_size_1 (by decide) ?_
  refine z_put (pc := 2) (ws' := mw E r (zI S 0 0)) F iX8 tyX8 tyX8_ok nmX8 0 rfl rfl 0 (by decide) tw_858 rfl rfl rfl (Nat.le_of_ble_eq_true rfl) dX8_size_2 rfl ?_
  refine z_aload_n (pc := 5) F dX8_size_5 rfl 0 rfl ?_
  refine z_iload_n (pc := 6) F dX8_size_6 rfl 1 rfl ?_
  refine z_callVW (pc := 7) (q0 := 0) (ci := 8) (rest := []) F (c_X8_isQuery l E r (zI S 0 0) nq (nI q) hn3) 1 ww_Model_235 (by decide +kernel) rfl ⟨Nat.le_of_ble_eq_true rfl, Nat.le_of_ble_eq_true rfl⟩ ⟨Nat.le_of_ble_eq_true rfl, Nat.le_of_ble_eq_true rfl⟩ rfl rfl rfl rfl (Nat.le_of_ble_eq_true rfl) dX8_size_7 (fun v_ w1_ hp => ?_)
  obtain ⟨rfl, rfl⟩ := hp
  show Z X (0) (0) (mw E r (zI S 0 0)) [(0, .ref (r 0)), (1, .int (nI q)), (2, .int w)] 10 [.int (bI (decide (0 ≤ (nI q) ∧ (nI q) ≤ nI nq - 1)))]
  rw [show (bI (decide (0 ≤ (nI q) ∧ (nI q) ≤ nI nq - 1))) = 1 from (wi1 (wiN hq (by omega)))]
  refine z_if_ne (pc := 10) (tgt := 15) F dX8_size_10 (by decide) (fun _ => ?_) (fun h => absurd h (by decide))
  refine z_aload_n (pc := 15) F dX8_size_15 rfl 0 rfl ?_
  refine z_iload_n (pc := 16) F dX8_size_16 rfl 1 rfl ?_
  refine z_callVW (pc := 17) (q0 := 0) (ci := 8) (rest := []) F (c_X8_findGroups l E r (zI S 0 0) q e m (by omega) hm hmo (qok_of (S := S) (S' := (zI S 0 0)) rfl rfl hqo) ho) 1 ww_Model_238 (by decide +kernel) rfl ⟨Nat.le_of_ble_eq_true rfl, Nat.le_of_ble_eq_true rfl⟩ ⟨Nat.le_of_ble_eq_true rfl, Nat.le_of_ble_eq_true rfl⟩ rfl rfl rfl rfl (Nat.le_of_ble_eq_true rfl) dX8_size_17 (fun v_ w1_ hp => ?_)
  obtain ⟨hh1, ab1, f1, hg1, md1, row1, key1, grp1, sm1, va1, mn1, lo1, hi1, rfl, rfl, h17_0, h17_1⟩ := hp
  show Z X (0) (0) (mw E r (mfg (zI S 0 0) hh1 ab1 f1 hg1 md1 (nI (fL S q e m).length) row1 key1 grp1 sm1 (nI (gL (fL S q e m)).length) va1 mn1 lo1 hi1)) [(0, .ref (r 0)), (1, .int (nI q)), (2, .int w)] 20 []
  refine z_iload_n (pc := 20) F dX8_size_20 rfl 2 rfl ?_
  refine z_if_ne (pc := 21) (tgt := 32) F dX8_size_21 (by decide) (fun c21 => ?_) (fun c21 => ?_)
  · refine z_iload_n (pc := 32) F dX8_size_32 rfl 2 rfl ?_
    refine z_iconst (pc := 33) (v := 1) F dX8_size_33 (by decide) ?_
    refine z_icmp_ne (pc := 34) (tgt := 44) F dX8_size_34 (by decide) (fun c34 => ?_) (fun c34 => ?_)
    · refine z_iload_n (pc := 44) F dX8_size_44 rfl 2 rfl ?_
      refine z_iconst (pc := 45) (v := 2) F dX8_size_45 (by decide) ?_
      refine z_icmp_ne (pc := 46) (tgt := 56) F dX8_size_46 (by decide) (fun c46 => ?_) (fun c46 => ?_)
      · refine z_iconst (pc := 56) (v := (-1)) F dX8_size_56 (by decide) ?_
        exact z_iret (pc := 57) F hR dX8_size_57 (Nat.le_of_ble_eq_true rfl) (Nat.le_of_ble_eq_true rfl) ⟨hh1, ab1, f1, hg1, md1, row1, key1, grp1, sm1, va1, mn1, lo1, hi1, by simp [c21, c34, c46], rfl⟩
      · refine z_aload_n (pc := 49) F dX8_size_49 rfl 0 rfl ?_
        refine z_get (pc := 50) (v := .int (nI (gL (fL S q e m)).length)) F iX8 0 rfl rfl 29 (by decide) tw_887 rfl dX8_size_50 ?_
        refine z_goto (pc := 53) (tgt := 57) F dX8_size_53 (by decide) ?_
        exact z_iret (pc := 57) F hR dX8_size_57 (Nat.le_of_ble_eq_true rfl) (Nat.le_of_ble_eq_true rfl) ⟨hh1, ab1, f1, hg1, md1, row1, key1, grp1, sm1, va1, mn1, lo1, hi1, by simp [c21, c34, c46], rfl⟩
    · refine z_aload_n (pc := 37) F dX8_size_37 rfl 0 rfl ?_
      refine z_get (pc := 38) (v := .int (nI (fL S q e m).length)) F iX8 0 rfl rfl 24 (by decide) tw_882 rfl dX8_size_38 ?_
      refine z_goto (pc := 41) (tgt := 57) F dX8_size_41 (by decide) ?_
      exact z_iret (pc := 57) F hR dX8_size_57 (Nat.le_of_ble_eq_true rfl) (Nat.le_of_ble_eq_true rfl) ⟨hh1, ab1, f1, hg1, md1, row1, key1, grp1, sm1, va1, mn1, lo1, hi1, by simp [c21, c34], rfl⟩
  · refine z_aload_n (pc := 24) F dX8_size_24 rfl 0 rfl ?_
    refine z_iload_n (pc := 25) F dX8_size_25 rfl 1 rfl ?_
    refine z_callVW (pc := 26) (q0 := 0) (ci := 8) (rest := []) F (c_X8_shows l E r (mfg (zI S 0 0) hh1 ab1 f1 hg1 md1 (nI (fL S q e m).length) row1 key1 grp1 sm1 (nI (gL (fL S q e m)).length) va1 mn1 lo1 hi1) q c ((fL S q e m).length) (by omega) hc hc2 rfl (Nat.le_trans (fL_len _ _ _ _) hm)) 1 ww_Model_151 (by decide +kernel) rfl ⟨Nat.le_of_ble_eq_true rfl, Nat.le_of_ble_eq_true rfl⟩ ⟨Nat.le_of_ble_eq_true rfl, Nat.le_of_ble_eq_true rfl⟩ rfl rfl rfl rfl (Nat.le_of_ble_eq_true rfl) dX8_size_26 (fun v_ w1_ hp => ?_)
    obtain ⟨rfl, rfl⟩ := hp
    show Z X (0) (0) (mw E r (mfg (zI S 0 0) hh1 ab1 f1 hg1 md1 (nI (fL S q e m).length) row1 key1 grp1 sm1 (nI (gL (fL S q e m)).length) va1 mn1 lo1 hi1)) [(0, .ref (r 0)), (1, .int (nI q)), (2, .int w)] 29 [.int (nI (shN c ((fL S q e m).length)))]
    refine z_goto (pc := 29) (tgt := 57) F dX8_size_29 (by decide) ?_
    exact z_iret (pc := 57) F hR dX8_size_57 (Nat.le_of_ble_eq_true rfl) (Nat.le_of_ble_eq_true rfl) ⟨hh1, ab1, f1, hg1, md1, row1, key1, grp1, sm1, va1, mn1, lo1, hi1, by simp [c21], rfl⟩
set_option maxHeartbeats 4000000 in
set_option maxRecDepth 100000 in
theorem c_X8_size_q (l : Launch) (E : zE) (r : Nat → Nat) (S : zS) (m : Nat) (nq : Nat) (q : Int32) (w : Int32) (hm : m ≤ 60) (hn3 : zi S 3 = nI nq) (hno : ¬ (0 ≤ q ∧ q ≤ nI nq - 1)) : Ct l yX8_size cX8_size 3 (some .int) ({ frames := 6, cells := 0, slots := 0, locals := 200 } : Room) E (mw E r S) [.ref (r 0), .int q, .int w] (fun v_ w_ => v_ = some (.int (-1)) ∧ w_ = mw E r (zI S 0 0)) := by
  refine Ct.of (by decide) (Nat.le_of_ble_eq_true rfl) (lv := [(0, .ref (r 0)), (1, .int q), (2, .int w)]) rfl ?_
  intro X F hR
  have F : zF X l ({ frames := 6, cells := 0, slots := 0, locals := 200 } : Room) E cX8_size 3 "LiveQueriesModel" := F
  refine z_aload_n (pc := 0) F dX8_size_0 rfl 0 rfl ?_
  refine z_iconst (pc := 1) (v := 0) F dX8_size_1 (by decide) ?_
  refine z_put (pc := 2) (ws' := mw E r (zI S 0 0)) F iX8 tyX8 tyX8_ok nmX8 0 rfl rfl 0 (by decide) tw_858 rfl rfl rfl (Nat.le_of_ble_eq_true rfl) dX8_size_2 rfl ?_
  refine z_aload_n (pc := 5) F dX8_size_5 rfl 0 rfl ?_
  refine z_iload_n (pc := 6) F dX8_size_6 rfl 1 rfl ?_
  refine z_callVW (pc := 7) (q0 := 0) (ci := 8) (rest := []) F (c_X8_isQuery l E r (zI S 0 0) nq q hn3) 1 ww_Model_235 (by decide +kernel) rfl ⟨Nat.le_of_ble_eq_true rfl, Nat.le_of_ble_eq_true rfl⟩ ⟨Nat.le_of_ble_eq_true rfl, Nat.le_of_ble_eq_true rfl⟩ rfl rfl rfl rfl (Nat.le_of_ble_eq_true rfl) dX8_size_7 (fun v_ w1_ hp => ?_)
  obtain ⟨rfl, rfl⟩ := hp
  show Z X (0) (0) (mw E r (zI S 0 0)) [(0, .ref (r 0)), (1, .int q), (2, .int w)] 10 [.int (bI (decide (0 ≤ q ∧ q ≤ nI nq - 1)))]
  rw [show (bI (decide (0 ≤ q ∧ q ≤ nI nq - 1))) = 0 from (wi0 hno)]
  refine z_if_ne (pc := 10) (tgt := 15) F dX8_size_10 (by decide) (fun h => absurd h (by decide)) (fun _ => ?_)
  refine z_iconst (pc := 13) (v := (-1)) F dX8_size_13 (by decide) ?_
  exact z_iret (pc := 14) F hR dX8_size_14 (Nat.le_of_ble_eq_true rfl) (Nat.le_of_ble_eq_true rfl) ⟨rfl, rfl⟩
set_option maxHeartbeats 4000000 in
set_option maxRecDepth 100000 in
theorem c_X8_got_q (l : Launch) (E : zE) (r : Nat → Nat) (S : zS) (m : Nat) (nq : Nat) (q : Int32) (k : Int32) (hm : m ≤ 60) (hn3 : zi S 3 = nI nq) (hno : ¬ (0 ≤ q ∧ q ≤ nI nq - 1)) : Ct l yX8_got cX8_got 3 (some .int) ({ frames := 6, cells := 0, slots := 0, locals := 200 } : Room) E (mw E r S) [.ref (r 0), .int q, .int k] (fun v_ w_ => v_ = some (.int (-1)) ∧ w_ = mw E r (zI S 0 0)) := by
  refine Ct.of (by decide) (Nat.le_of_ble_eq_true rfl) (lv := [(0, .ref (r 0)), (1, .int q), (2, .int k)]) rfl ?_
  intro X F hR
  have F : zF X l ({ frames := 6, cells := 0, slots := 0, locals := 200 } : Room) E cX8_got 3 "LiveQueriesModel" := F
  refine z_aload_n (pc := 0) F dX8_got_0 rfl 0 rfl ?_
  refine z_iconst (pc := 1) (v := 0) F dX8_got_1 (by decide) ?_
  refine z_put (pc := 2) (ws' := mw E r (zI S 0 0)) F iX8 tyX8 tyX8_ok nmX8 0 rfl rfl 0 (by decide) tw_858 rfl rfl rfl (Nat.le_of_ble_eq_true rfl) dX8_got_2 rfl ?_
  refine z_aload_n (pc := 5) F dX8_got_5 rfl 0 rfl ?_
  refine z_iload_n (pc := 6) F dX8_got_6 rfl 1 rfl ?_
  refine z_callVW (pc := 7) (q0 := 0) (ci := 8) (rest := []) F (c_X8_isQuery l E r (zI S 0 0) nq q hn3) 1 ww_Model_235 (by decide +kernel) rfl ⟨Nat.le_of_ble_eq_true rfl, Nat.le_of_ble_eq_true rfl⟩ ⟨Nat.le_of_ble_eq_true rfl, Nat.le_of_ble_eq_true rfl⟩ rfl rfl rfl rfl (Nat.le_of_ble_eq_true rfl) dX8_got_7 (fun v_ w1_ hp => ?_)
  obtain ⟨rfl, rfl⟩ := hp
  show Z X (0) (0) (mw E r (zI S 0 0)) [(0, .ref (r 0)), (1, .int q), (2, .int k)] 10 [.int (bI (decide (0 ≤ q ∧ q ≤ nI nq - 1)))]
  rw [show (bI (decide (0 ≤ q ∧ q ≤ nI nq - 1))) = 0 from (wi0 hno)]
  refine z_if_ne (pc := 10) (tgt := 15) F dX8_got_10 (by decide) (fun h => absurd h (by decide)) (fun _ => ?_)
  refine z_iconst (pc := 13) (v := (-1)) F dX8_got_13 (by decide) ?_
  exact z_iret (pc := 14) F hR dX8_got_14 (Nat.le_of_ble_eq_true rfl) (Nat.le_of_ble_eq_true rfl) ⟨rfl, rfl⟩
set_option maxHeartbeats 4000000 in
set_option maxRecDepth 100000 in
theorem c_X8_key_q (l : Launch) (E : zE) (r : Nat → Nat) (S : zS) (m : Nat) (nq : Nat) (q : Int32) (k : Int32) (hm : m ≤ 60) (hn3 : zi S 3 = nI nq) (hno : ¬ (0 ≤ q ∧ q ≤ nI nq - 1)) : Ct l yX8_key cX8_key 3 (some .long) ({ frames := 6, cells := 0, slots := 0, locals := 200 } : Room) E (mw E r S) [.ref (r 0), .int q, .int k] (fun v_ w_ => v_ = some (.long 0) ∧ w_ = mw E r (zI S 0 1)) := by
  refine Ct.of (by decide) (Nat.le_of_ble_eq_true rfl) (lv := [(0, .ref (r 0)), (1, .int q), (2, .int k)]) rfl ?_
  intro X F hR
  have F : zF X l ({ frames := 6, cells := 0, slots := 0, locals := 200 } : Room) E cX8_key 3 "LiveQueriesModel" := F
  refine z_aload_n (pc := 0) F dX8_key_0 rfl 0 rfl ?_
  refine z_iconst (pc := 1) (v := 1) F dX8_key_1 (by decide) ?_
  refine z_put (pc := 2) (ws' := mw E r (zI S 0 1)) F iX8 tyX8 tyX8_ok nmX8 0 rfl rfl 0 (by decide) tw_858 rfl rfl rfl (Nat.le_of_ble_eq_true rfl) dX8_key_2 rfl ?_
  refine z_aload_n (pc := 5) F dX8_key_5 rfl 0 rfl ?_
  refine z_iload_n (pc := 6) F dX8_key_6 rfl 1 rfl ?_
  refine z_callVW (pc := 7) (q0 := 0) (ci := 8) (rest := []) F (c_X8_isQuery l E r (zI S 0 1) nq q hn3) 1 ww_Model_235 (by decide +kernel) rfl ⟨Nat.le_of_ble_eq_true rfl, Nat.le_of_ble_eq_true rfl⟩ ⟨Nat.le_of_ble_eq_true rfl, Nat.le_of_ble_eq_true rfl⟩ rfl rfl rfl rfl (Nat.le_of_ble_eq_true rfl) dX8_key_7 (fun v_ w1_ hp => ?_)
  obtain ⟨rfl, rfl⟩ := hp
  show Z X (0) (0) (mw E r (zI S 0 1)) [(0, .ref (r 0)), (1, .int q), (2, .int k)] 10 [.int (bI (decide (0 ≤ q ∧ q ≤ nI nq - 1)))]
  rw [show (bI (decide (0 ≤ q ∧ q ≤ nI nq - 1))) = 0 from (wi0 hno)]
  refine z_if_ne (pc := 10) (tgt := 15) F dX8_key_10 (by decide) (fun h => absurd h (by decide)) (fun _ => ?_)
  refine z_lconst (pc := 13) (v := 0) F dX8_key_13 (by decide) ?_
  exact z_lret (pc := 14) F hR dX8_key_14 (Nat.le_of_ble_eq_true rfl) (Nat.le_of_ble_eq_true rfl) ⟨rfl, rfl⟩
set_option maxHeartbeats 4000000 in
set_option maxRecDepth 100000 in
theorem c_X8_group_q (l : Launch) (E : zE) (r : Nat → Nat) (S : zS) (m : Nat) (nq : Nat) (q : Int32) (k : Int32) (w : Int32) (hm : m ≤ 60) (hn3 : zi S 3 = nI nq) (hno : ¬ (0 ≤ q ∧ q ≤ nI nq - 1)) : Ct l yX8_group cX8_group 4 (some .long) ({ frames := 6, cells := 0, slots := 0, locals := 200 } : Room) E (mw E r S) [.ref (r 0), .int q, .int k, .int w] (fun v_ w_ => v_ = some (.long 0) ∧ w_ = mw E r (zI S 0 1)) := by
  refine Ct.of (by decide) (Nat.le_of_ble_eq_true rfl) (lv := [(0, .ref (r 0)), (1, .int q), (2, .int k), (3, .int w)]) rfl ?_
  intro X F hR
  have F : zF X l ({ frames := 6, cells := 0, slots := 0, locals := 200 } : Room) E cX8_group 4 "LiveQueriesModel" := F
  refine z_aload_n (pc := 0) F dX8_group_0 rfl 0 rfl ?_
  refine z_iconst (pc := 1) (v := 1) F dX8_group_1 (by decide) ?_
  refine z_put (pc := 2) (ws' := mw E r (zI S 0 1)) F iX8 tyX8 tyX8_ok nmX8 0 rfl rfl 0 (by decide) tw_858 rfl rfl rfl (Nat.le_of_ble_eq_true rfl) dX8_group_2 rfl ?_
  refine z_aload_n (pc := 5) F dX8_group_5 rfl 0 rfl ?_
  refine z_iload_n (pc := 6) F dX8_group_6 rfl 1 rfl ?_
  refine z_callVW (pc := 7) (q0 := 0) (ci := 8) (rest := []) F (c_X8_isQuery l E r (zI S 0 1) nq q hn3) 1 ww_Model_235 (by decide +kernel) rfl ⟨Nat.le_of_ble_eq_true rfl, Nat.le_of_ble_eq_true rfl⟩ ⟨Nat.le_of_ble_eq_true rfl, Nat.le_of_ble_eq_true rfl⟩ rfl rfl rfl rfl (Nat.le_of_ble_eq_true rfl) dX8_group_7 (fun v_ w1_ hp => ?_)
  obtain ⟨rfl, rfl⟩ := hp
  show Z X (0) (0) (mw E r (zI S 0 1)) [(0, .ref (r 0)), (1, .int q), (2, .int k), (3, .int w)] 10 [.int (bI (decide (0 ≤ q ∧ q ≤ nI nq - 1)))]
  rw [show (bI (decide (0 ≤ q ∧ q ≤ nI nq - 1))) = 0 from (wi0 hno)]
  refine z_if_eq (pc := 10) (tgt := 22) F dX8_group_10 (by decide) (fun _ => ?_) (fun h => absurd h (by decide))
  refine z_lconst (pc := 22) (v := 0) F dX8_group_22 (by decide) ?_
  exact z_lret (pc := 23) F hR dX8_group_23 (Nat.le_of_ble_eq_true rfl) (Nat.le_of_ble_eq_true rfl) ⟨rfl, rfl⟩
set_option maxHeartbeats 4000000 in
set_option maxRecDepth 100000 in
theorem c_X8_uses_q (l : Launch) (E : zE) (r : Nat → Nat) (S : zS) (m : Nat) (nq : Nat) (q : Int32) (o : Int32) (hm : m ≤ 60) (hn3 : zi S 3 = nI nq) (hno : ¬ (0 ≤ q ∧ q ≤ nI nq - 1)) : Ct l yX8_uses cX8_uses 5 (some .int) ({ frames := 6, cells := 0, slots := 0, locals := 200 } : Room) E (mw E r S) [.ref (r 0), .int q, .int o] (fun v_ w_ => v_ = some (.int (-1)) ∧ w_ = mw E r (zI S 0 0)) := by
  refine Ct.of (by decide) (Nat.le_of_ble_eq_true rfl) (lv := [(0, .ref (r 0)), (1, .int q), (2, .int o)]) rfl ?_
  intro X F hR
  have F : zF X l ({ frames := 6, cells := 0, slots := 0, locals := 200 } : Room) E cX8_uses 5 "LiveQueriesModel" := F
  refine z_aload_n (pc := 0) F dX8_uses_0 rfl 0 rfl ?_
  refine z_iconst (pc := 1) (v := 0) F dX8_uses_1 (by decide) ?_
  refine z_put (pc := 2) (ws' := mw E r (zI S 0 0)) F iX8 tyX8 tyX8_ok nmX8 0 rfl rfl 0 (by decide) tw_858 rfl rfl rfl (Nat.le_of_ble_eq_true rfl) dX8_uses_2 rfl ?_
  refine z_aload_n (pc := 5) F dX8_uses_5 rfl 0 rfl ?_
  refine z_iload_n (pc := 6) F dX8_uses_6 rfl 1 rfl ?_
  refine z_callVW (pc := 7) (q0 := 0) (ci := 8) (rest := []) F (c_X8_isQuery l E r (zI S 0 0) nq q hn3) 1 ww_Model_235 (by decide +kernel) rfl ⟨Nat.le_of_ble_eq_true rfl, Nat.le_of_ble_eq_true rfl⟩ ⟨Nat.le_of_ble_eq_true rfl, Nat.le_of_ble_eq_true rfl⟩ rfl rfl rfl rfl (Nat.le_of_ble_eq_true rfl) dX8_uses_7 (fun v_ w1_ hp => ?_)
  obtain ⟨rfl, rfl⟩ := hp
  show Z X (0) (0) (mw E r (zI S 0 0)) [(0, .ref (r 0)), (1, .int q), (2, .int o)] 10 [.int (bI (decide (0 ≤ q ∧ q ≤ nI nq - 1)))]
  rw [show (bI (decide (0 ≤ q ∧ q ≤ nI nq - 1))) = 0 from (wi0 hno)]
  refine z_if_eq (pc := 10) (tgt := 21) F dX8_uses_10 (by decide) (fun _ => ?_) (fun h => absurd h (by decide))
  refine z_iconst (pc := 21) (v := (-1)) F dX8_uses_21 (by decide) ?_
  exact z_iret (pc := 22) F hR dX8_uses_22 (Nat.le_of_ble_eq_true rfl) (Nat.le_of_ble_eq_true rfl) ⟨rfl, rfl⟩
set_option maxHeartbeats 4000000 in
set_option maxRecDepth 100000 in
theorem c_X8_got_s (l : Launch) (E : zE) (r : Nat → Nat) (S : zS) (m : Nat) (nq : Nat) (q : Nat) (e : Nat → Nat) (k : Nat) (x : zRow) (hm : m ≤ 60) (hmo : zi S 2 = nI m) (hnq : nq ≤ 6) (hn3 : zi S 3 = nI nq) (hq : q < nq) (hqo : qok S q e) (ho : objOk S) (hx : (fL S q e m)[k]? = some x) : Ct l yX8_got cX8_got 3 (some .int) ({ frames := 6, cells := 0, slots := 0, locals := 200 } : Room) E (mw E r S) [.ref (r 0), .int (nI q), .int (nI k)] (fun v_ w_ => ∃ hh : Int32, ∃ ab : Int32, ∃ f : Nat → Int64, ∃ hg : Nat → Int32, ∃ md : Nat → Int64, ∃ row : Nat → Int32, ∃ key : Nat → Int64, ∃ grp : Nat → Int64, ∃ sm : Nat → Int64, v_ = some (.int (nI x.1)) ∧ w_ = mw E r (mfd (zI S 0 0) hh ab f hg md (nI (fL S q e m).length) row key grp sm) ∧ (hoR (fL S q e m) row key grp sm)) := by
  refine Ct.of (by decide) (Nat.le_of_ble_eq_true rfl) (lv := [(0, .ref (r 0)), (1, .int (nI q)), (2, .int (nI k))]) rfl ?_
  intro X F hR
  have F : zF X l ({ frames := 6, cells := 0, slots := 0, locals := 200 } : Room) E cX8_got 3 "LiveQueriesModel" := F
  have hkl := (List.getElem?_eq_some_iff.mp hx).1
  have hfl := fL_len S q e m
  refine z_aload_n (pc := 0) F dX8_got_0 rfl 0 rfl ?_
  refine z_iconst (pc := 1) (v := 0) F dX8_got_1 (by decide) ?_
  refine z_put (pc := 2) (ws' := mw E r (zI S 0 0)) F iX8 tyX8 tyX8_ok nmX8 0 rfl rfl 0 (by decide) tw_858 rfl rfl rfl (Nat.le_of_ble_eq_true rfl) dX8_got_2 rfl ?_
  refine z_aload_n (pc := 5) F dX8_got_5 rfl 0 rfl ?_
  refine z_iload_n (pc := 6) F dX8_got_6 rfl 1 rfl ?_
  refine z_callVW (pc := 7) (q0 := 0) (ci := 8) (rest := []) F (c_X8_isQuery l E r (zI S 0 0) nq (nI q) hn3) 1 ww_Model_235 (by decide +kernel) rfl ⟨Nat.le_of_ble_eq_true rfl, Nat.le_of_ble_eq_true rfl⟩ ⟨Nat.le_of_ble_eq_true rfl, Nat.le_of_ble_eq_true rfl⟩ rfl rfl rfl rfl (Nat.le_of_ble_eq_true rfl) dX8_got_7 (fun v_ w1_ hp => ?_)
  obtain ⟨rfl, rfl⟩ := hp
  show Z X (0) (0) (mw E r (zI S 0 0)) [(0, .ref (r 0)), (1, .int (nI q)), (2, .int (nI k))] 10 [.int (bI (decide (0 ≤ (nI q) ∧ (nI q) ≤ nI nq - 1)))]
  rw [show (bI (decide (0 ≤ (nI q) ∧ (nI q) ≤ nI nq - 1))) = 1 from (wi1 (wiN hq (by omega)))]
  refine z_if_ne (pc := 10) (tgt := 15) F dX8_got_10 (by decide) (fun _ => ?_) (fun h => absurd h (by decide))
  refine z_aload_n (pc := 15) F dX8_got_15 rfl 0 rfl ?_
  refine z_iload_n (pc := 16) F dX8_got_16 rfl 1 rfl ?_
  refine z_callVW (pc := 17) (q0 := 0) (ci := 8) (rest := []) F (c_X8_find2 l E r (zI S 0 0) q e m (by omega) hm hmo (qok_of (S := S) (S' := (zI S 0 0)) rfl rfl hqo) ho) 1 ww_Model_137 (by decide +kernel) rfl ⟨Nat.le_of_ble_eq_true rfl, Nat.le_of_ble_eq_true rfl⟩ ⟨Nat.le_of_ble_eq_true rfl, Nat.le_of_ble_eq_true rfl⟩ rfl rfl rfl rfl (Nat.le_of_ble_eq_true rfl) dX8_got_17 (fun v_ w1_ hp => ?_)
  obtain ⟨hh1, ab1, f1, hg1, md1, row1, key1, grp1, sm1, rfl, rfl, h17_0⟩ := hp
  show Z X (0) (0) (mw E r (mfd (zI S 0 0) hh1 ab1 f1 hg1 md1 (nI (fL S q e m).length) row1 key1 grp1 sm1)) [(0, .ref (r 0)), (1, .int (nI q)), (2, .int (nI k))] 20 []
  have hho : hoR (fL S q e m) row1 key1 grp1 sm1 := h17_0
  obtain ⟨hx1, hx2, hx3, hx4⟩ := hho k x hx
  refine z_iload_n (pc := 20) F dX8_got_20 rfl 2 rfl ?_
  refine z_iconst (pc := 21) (v := 0) F dX8_got_21 (by decide) ?_
  refine z_aload_n (pc := 22) F dX8_got_22 rfl 0 rfl ?_
  refine z_get (pc := 23) (v := .int (nI (fL S q e m).length)) F iX8 0 rfl rfl 24 (by decide) tw_882 rfl dX8_got_23 ?_
  refine z_iconst (pc := 26) (v := 1) F dX8_got_26 (by decide) ?_
  refine z_isub (pc := 27) F dX8_got_27 ?_
  refine z_callS0 (pc := 28) (rest := []) F (c_X8_within l E (nI k) 0 ((nI (fL S q e m).length) - 1)) 3 ww_Model_97 (by decide +kernel) rfl ⟨Nat.le_of_ble_eq_true rfl, Nat.le_of_ble_eq_true rfl⟩ ⟨Nat.le_of_ble_eq_true rfl, Nat.le_of_ble_eq_true rfl⟩ rfl (Nat.le_of_ble_eq_true rfl) dX8_got_28 (fun v_ w1_ hp => ?_)
  obtain ⟨rfl, rfl⟩ := hp
  show Z X (0) (0) (mw E r (mfd (zI S 0 0) hh1 ab1 f1 hg1 md1 (nI (fL S q e m).length) row1 key1 grp1 sm1)) [(0, .ref (r 0)), (1, .int (nI q)), (2, .int (nI k))] 31 [.int (bI (decide (0 ≤ (nI k) ∧ (nI k) ≤ ((nI (fL S q e m).length) - 1))))]
  rw [show (bI (decide (0 ≤ (nI k) ∧ (nI k) ≤ ((nI (fL S q e m).length) - 1)))) = 1 from (wi1 (wiN hkl (by omega)))]
  refine z_if_eq (pc := 31) (tgt := 43) F dX8_got_31 (by decide) (fun h => absurd h (by decide)) (fun _ => ?_)
  refine z_aload_n (pc := 34) F dX8_got_34 rfl 0 rfl ?_
  refine z_get (pc := 35) (v := .ref (r 18)) F iX8 0 rfl rfl 25 (by decide) tw_883 rfl dX8_got_35 ?_
  refine z_iload_n (pc := 38) F dX8_got_38 rfl 2 rfl ?_
  refine z_ialdN (pc := 39) (f := row1) F 18 0 rfl rfl k rfl (by omega) (by decide) dX8_got_39 ?_
  rw [show ((row1) k) = nI x.1 from hx1]
  refine z_goto (pc := 40) (tgt := 44) F dX8_got_40 (by decide) ?_
  exact z_iret (pc := 44) F hR dX8_got_44 (Nat.le_of_ble_eq_true rfl) (Nat.le_of_ble_eq_true rfl) ⟨hh1, ab1, f1, hg1, md1, row1, key1, grp1, sm1, rfl, rfl, hho⟩
set_option maxHeartbeats 4000000 in
set_option maxRecDepth 100000 in
theorem c_X8_got_n (l : Launch) (E : zE) (r : Nat → Nat) (S : zS) (m : Nat) (nq : Nat) (q : Nat) (e : Nat → Nat) (k : Int32) (hm : m ≤ 60) (hmo : zi S 2 = nI m) (hnq : nq ≤ 6) (hn3 : zi S 3 = nI nq) (hq : q < nq) (hqo : qok S q e) (ho : objOk S) (hno : ¬ (0 ≤ k ∧ k ≤ nI (fL S q e m).length - 1)) : Ct l yX8_got cX8_got 3 (some .int) ({ frames := 6, cells := 0, slots := 0, locals := 200 } : Room) E (mw E r S) [.ref (r 0), .int (nI q), .int k] (fun v_ w_ => ∃ hh : Int32, ∃ ab : Int32, ∃ f : Nat → Int64, ∃ hg : Nat → Int32, ∃ md : Nat → Int64, ∃ row : Nat → Int32, ∃ key : Nat → Int64, ∃ grp : Nat → Int64, ∃ sm : Nat → Int64, v_ = some (.int (-1)) ∧ w_ = mw E r (mfd (zI S 0 0) hh ab f hg md (nI (fL S q e m).length) row key grp sm) ∧ (hoR (fL S q e m) row key grp sm)) := by
  refine Ct.of (by decide) (Nat.le_of_ble_eq_true rfl) (lv := [(0, .ref (r 0)), (1, .int (nI q)), (2, .int k)]) rfl ?_
  intro X F hR
  have F : zF X l ({ frames := 6, cells := 0, slots := 0, locals := 200 } : Room) E cX8_got 3 "LiveQueriesModel" := F
  refine z_aload_n (pc := 0) F dX8_got_0 rfl 0 rfl ?_
  refine z_iconst (pc := 1) (v := 0) F dX8_got_1 (by decide) ?_
  refine z_put (pc := 2) (ws' := mw E r (zI S 0 0)) F iX8 tyX8 tyX8_ok nmX8 0 rfl rfl 0 (by decide) tw_858 rfl rfl rfl (Nat.le_of_ble_eq_true rfl) dX8_got_2 rfl ?_
  refine z_aload_n (pc := 5) F dX8_got_5 rfl 0 rfl ?_
  refine z_iload_n (pc := 6) F dX8_got_6 rfl 1 rfl ?_
  refine z_callVW (pc := 7) (q0 := 0) (ci := 8) (rest := []) F (c_X8_isQuery l E r (zI S 0 0) nq (nI q) hn3) 1 ww_Model_235 (by decide +kernel) rfl ⟨Nat.le_of_ble_eq_true rfl, Nat.le_of_ble_eq_true rfl⟩ ⟨Nat.le_of_ble_eq_true rfl, Nat.le_of_ble_eq_true rfl⟩ rfl rfl rfl rfl (Nat.le_of_ble_eq_true rfl) dX8_got_7 (fun v_ w1_ hp => ?_)
  obtain ⟨rfl, rfl⟩ := hp
  show Z X (0) (0) (mw E r (zI S 0 0)) [(0, .ref (r 0)), (1, .int (nI q)), (2, .int k)] 10 [.int (bI (decide (0 ≤ (nI q) ∧ (nI q) ≤ nI nq - 1)))]
  rw [show (bI (decide (0 ≤ (nI q) ∧ (nI q) ≤ nI nq - 1))) = 1 from (wi1 (wiN hq (by omega)))]
  refine z_if_ne (pc := 10) (tgt := 15) F dX8_got_10 (by decide) (fun _ => ?_) (fun h => absurd h (by decide))
  refine z_aload_n (pc := 15) F dX8_got_15 rfl 0 rfl ?_
  refine z_iload_n (pc := 16) F dX8_got_16 rfl 1 rfl ?_
  refine z_callVW (pc := 17) (q0 := 0) (ci := 8) (rest := []) F (c_X8_find2 l E r (zI S 0 0) q e m (by omega) hm hmo (qok_of (S := S) (S' := (zI S 0 0)) rfl rfl hqo) ho) 1 ww_Model_137 (by decide +kernel) rfl ⟨Nat.le_of_ble_eq_true rfl, Nat.le_of_ble_eq_true rfl⟩ ⟨Nat.le_of_ble_eq_true rfl, Nat.le_of_ble_eq_true rfl⟩ rfl rfl rfl rfl (Nat.le_of_ble_eq_true rfl) dX8_got_17 (fun v_ w1_ hp => ?_)
  obtain ⟨hh1, ab1, f1, hg1, md1, row1, key1, grp1, sm1, rfl, rfl, h17_0⟩ := hp
  show Z X (0) (0) (mw E r (mfd (zI S 0 0) hh1 ab1 f1 hg1 md1 (nI (fL S q e m).length) row1 key1 grp1 sm1)) [(0, .ref (r 0)), (1, .int (nI q)), (2, .int k)] 20 []
  refine z_iload_n (pc := 20) F dX8_got_20 rfl 2 rfl ?_
  refine z_iconst (pc := 21) (v := 0) F dX8_got_21 (by decide) ?_
  refine z_aload_n (pc := 22) F dX8_got_22 rfl 0 rfl ?_
  refine z_get (pc := 23) (v := .int (nI (fL S q e m).length)) F iX8 0 rfl rfl 24 (by decide) tw_882 rfl dX8_got_23 ?_
  refine z_iconst (pc := 26) (v := 1) F dX8_got_26 (by decide) ?_
  refine z_isub (pc := 27) F dX8_got_27 ?_
  refine z_callS0 (pc := 28) (rest := []) F (c_X8_within l E k 0 ((nI (fL S q e m).length) - 1)) 3 ww_Model_97 (by decide +kernel) rfl ⟨Nat.le_of_ble_eq_true rfl, Nat.le_of_ble_eq_true rfl⟩ ⟨Nat.le_of_ble_eq_true rfl, Nat.le_of_ble_eq_true rfl⟩ rfl (Nat.le_of_ble_eq_true rfl) dX8_got_28 (fun v_ w1_ hp => ?_)
  obtain ⟨rfl, rfl⟩ := hp
  show Z X (0) (0) (mw E r (mfd (zI S 0 0) hh1 ab1 f1 hg1 md1 (nI (fL S q e m).length) row1 key1 grp1 sm1)) [(0, .ref (r 0)), (1, .int (nI q)), (2, .int k)] 31 [.int (bI (decide (0 ≤ k ∧ k ≤ ((nI (fL S q e m).length) - 1))))]
  rw [show (bI (decide (0 ≤ k ∧ k ≤ ((nI (fL S q e m).length) - 1)))) = 0 from (wi0 hno)]
  refine z_if_eq (pc := 31) (tgt := 43) F dX8_got_31 (by decide) (fun _ => ?_) (fun h => absurd h (by decide))
  refine z_iconst (pc := 43) (v := (-1)) F dX8_got_43 (by decide) ?_
  exact z_iret (pc := 44) F hR dX8_got_44 (Nat.le_of_ble_eq_true rfl) (Nat.le_of_ble_eq_true rfl) ⟨hh1, ab1, f1, hg1, md1, row1, key1, grp1, sm1, rfl, rfl, h17_0⟩
set_option maxHeartbeats 4000000 in
set_option maxRecDepth 100000 in
theorem c_X8_key_s (l : Launch) (E : zE) (r : Nat → Nat) (S : zS) (m : Nat) (nq : Nat) (q : Nat) (e : Nat → Nat) (k : Nat) (x : zRow) (hm : m ≤ 60) (hmo : zi S 2 = nI m) (hnq : nq ≤ 6) (hn3 : zi S 3 = nI nq) (hq : q < nq) (hqo : qok S q e) (ho : objOk S) (hx : (fL S q e m)[k]? = some x) : Ct l yX8_key cX8_key 3 (some .long) ({ frames := 6, cells := 0, slots := 0, locals := 200 } : Room) E (mw E r S) [.ref (r 0), .int (nI q), .int (nI k)] (fun v_ w_ => ∃ hh : Int32, ∃ ab : Int32, ∃ f : Nat → Int64, ∃ hg : Nat → Int32, ∃ md : Nat → Int64, ∃ row : Nat → Int32, ∃ key : Nat → Int64, ∃ grp : Nat → Int64, ∃ sm : Nat → Int64, v_ = some (.long (x.2.1)) ∧ w_ = mw E r (mfd (zI (zI S 0 1) 0 0) hh ab f hg md (nI (fL S q e m).length) row key grp sm) ∧ (hoR (fL S q e m) row key grp sm)) := by
  refine Ct.of (by decide) (Nat.le_of_ble_eq_true rfl) (lv := [(0, .ref (r 0)), (1, .int (nI q)), (2, .int (nI k))]) rfl ?_
  intro X F hR
  have F : zF X l ({ frames := 6, cells := 0, slots := 0, locals := 200 } : Room) E cX8_key 3 "LiveQueriesModel" := F
  have hkl := (List.getElem?_eq_some_iff.mp hx).1
  have hfl := fL_len S q e m
  refine z_aload_n (pc := 0) F dX8_key_0 rfl 0 rfl ?_
  refine z_iconst (pc := 1) (v := 1) F dX8_key_1 (by decide) ?_
  refine z_put (pc := 2) (ws' := mw E r (zI S 0 1)) F iX8 tyX8 tyX8_ok nmX8 0 rfl rfl 0 (by decide) tw_858 rfl rfl rfl (Nat.le_of_ble_eq_true rfl) dX8_key_2 rfl ?_
  refine z_aload_n (pc := 5) F dX8_key_5 rfl 0 rfl ?_
  refine z_iload_n (pc := 6) F dX8_key_6 rfl 1 rfl ?_
  refine z_callVW (pc := 7) (q0 := 0) (ci := 8) (rest := []) F (c_X8_isQuery l E r (zI S 0 1) nq (nI q) hn3) 1 ww_Model_235 (by decide +kernel) rfl ⟨Nat.le_of_ble_eq_true rfl, Nat.le_of_ble_eq_true rfl⟩ ⟨Nat.le_of_ble_eq_true rfl, Nat.le_of_ble_eq_true rfl⟩ rfl rfl rfl rfl (Nat.le_of_ble_eq_true rfl) dX8_key_7 (fun v_ w1_ hp => ?_)
  obtain ⟨rfl, rfl⟩ := hp
  show Z X (0) (0) (mw E r (zI S 0 1)) [(0, .ref (r 0)), (1, .int (nI q)), (2, .int (nI k))] 10 [.int (bI (decide (0 ≤ (nI q) ∧ (nI q) ≤ nI nq - 1)))]
  rw [show (bI (decide (0 ≤ (nI q) ∧ (nI q) ≤ nI nq - 1))) = 1 from (wi1 (wiN hq (by omega)))]
  refine z_if_ne (pc := 10) (tgt := 15) F dX8_key_10 (by decide) (fun _ => ?_) (fun h => absurd h (by decide))
  refine z_aload_n (pc := 15) F dX8_key_15 rfl 0 rfl ?_
  refine z_iload_n (pc := 16) F dX8_key_16 rfl 1 rfl ?_
  refine z_callVW (pc := 17) (q0 := 0) (ci := 8) (rest := []) F (c_X8_find2 l E r (zI S 0 1) q e m (by omega) hm hmo (qok_of (S := S) (S' := (zI S 0 1)) rfl rfl hqo) ho) 1 ww_Model_137 (by decide +kernel) rfl ⟨Nat.le_of_ble_eq_true rfl, Nat.le_of_ble_eq_true rfl⟩ ⟨Nat.le_of_ble_eq_true rfl, Nat.le_of_ble_eq_true rfl⟩ rfl rfl rfl rfl (Nat.le_of_ble_eq_true rfl) dX8_key_17 (fun v_ w1_ hp => ?_)
  obtain ⟨hh1, ab1, f1, hg1, md1, row1, key1, grp1, sm1, rfl, rfl, h17_0⟩ := hp
  show Z X (0) (0) (mw E r (mfd (zI S 0 1) hh1 ab1 f1 hg1 md1 (nI (fL S q e m).length) row1 key1 grp1 sm1)) [(0, .ref (r 0)), (1, .int (nI q)), (2, .int (nI k))] 20 []
  have hho : hoR (fL S q e m) row1 key1 grp1 sm1 := h17_0
  obtain ⟨hx1, hx2, hx3, hx4⟩ := hho k x hx
  refine z_iload_n (pc := 20) F dX8_key_20 rfl 2 rfl ?_
  refine z_iconst (pc := 21) (v := 0) F dX8_key_21 (by decide) ?_
  refine z_aload_n (pc := 22) F dX8_key_22 rfl 0 rfl ?_
  refine z_get (pc := 23) (v := .int (nI (fL S q e m).length)) F iX8 0 rfl rfl 24 (by decide) tw_882 rfl dX8_key_23 ?_
  refine z_iconst (pc := 26) (v := 1) F dX8_key_26 (by decide) ?_
  refine z_isub (pc := 27) F dX8_key_27 ?_
  refine z_callS0 (pc := 28) (rest := []) F (c_X8_within l E (nI k) 0 ((nI (fL S q e m).length) - 1)) 3 ww_Model_97 (by decide +kernel) rfl ⟨Nat.le_of_ble_eq_true rfl, Nat.le_of_ble_eq_true rfl⟩ ⟨Nat.le_of_ble_eq_true rfl, Nat.le_of_ble_eq_true rfl⟩ rfl (Nat.le_of_ble_eq_true rfl) dX8_key_28 (fun v_ w1_ hp => ?_)
  obtain ⟨rfl, rfl⟩ := hp
  show Z X (0) (0) (mw E r (mfd (zI S 0 1) hh1 ab1 f1 hg1 md1 (nI (fL S q e m).length) row1 key1 grp1 sm1)) [(0, .ref (r 0)), (1, .int (nI q)), (2, .int (nI k))] 31 [.int (bI (decide (0 ≤ (nI k) ∧ (nI k) ≤ ((nI (fL S q e m).length) - 1))))]
  rw [show (bI (decide (0 ≤ (nI k) ∧ (nI k) ≤ ((nI (fL S q e m).length) - 1)))) = 1 from (wi1 (wiN hkl (by omega)))]
  refine z_if_ne (pc := 31) (tgt := 36) F dX8_key_31 (by decide) (fun _ => ?_) (fun h => absurd h (by decide))
  refine z_aload_n (pc := 36) F dX8_key_36 rfl 0 rfl ?_
  refine z_iconst (pc := 37) (v := 0) F dX8_key_37 (by decide) ?_
  refine z_put (pc := 38) (ws' := mw E r (mfd (zI (zI S 0 1) 0 0) hh1 ab1 f1 hg1 md1 (nI (fL S q e m).length) row1 key1 grp1 sm1)) F iX8 tyX8 tyX8_ok nmX8 0 rfl rfl 0 (by decide) tw_858 rfl rfl rfl (Nat.le_of_ble_eq_true rfl) dX8_key_38 rfl ?_
  refine z_aload_n (pc := 41) F dX8_key_41 rfl 0 rfl ?_
  refine z_get (pc := 42) (v := .ref (r 19)) F iX8 0 rfl rfl 26 (by decide) tw_884 rfl dX8_key_42 ?_
  refine z_iload_n (pc := 45) F dX8_key_45 rfl 2 rfl ?_
  refine z_laldN (pc := 46) (f := key1) F 19 1 rfl rfl k rfl (by omega) (by decide) dX8_key_46 ?_
  rw [show ((key1) k) = x.2.1 from hx2]
  exact z_lret (pc := 47) F hR dX8_key_47 (Nat.le_of_ble_eq_true rfl) (Nat.le_of_ble_eq_true rfl) ⟨hh1, ab1, f1, hg1, md1, row1, key1, grp1, sm1, rfl, rfl, hho⟩
set_option maxHeartbeats 4000000 in
set_option maxRecDepth 100000 in
theorem c_X8_key_n (l : Launch) (E : zE) (r : Nat → Nat) (S : zS) (m : Nat) (nq : Nat) (q : Nat) (e : Nat → Nat) (k : Int32) (hm : m ≤ 60) (hmo : zi S 2 = nI m) (hnq : nq ≤ 6) (hn3 : zi S 3 = nI nq) (hq : q < nq) (hqo : qok S q e) (ho : objOk S) (hno : ¬ (0 ≤ k ∧ k ≤ nI (fL S q e m).length - 1)) : Ct l yX8_key cX8_key 3 (some .long) ({ frames := 6, cells := 0, slots := 0, locals := 200 } : Room) E (mw E r S) [.ref (r 0), .int (nI q), .int k] (fun v_ w_ => ∃ hh : Int32, ∃ ab : Int32, ∃ f : Nat → Int64, ∃ hg : Nat → Int32, ∃ md : Nat → Int64, ∃ row : Nat → Int32, ∃ key : Nat → Int64, ∃ grp : Nat → Int64, ∃ sm : Nat → Int64, v_ = some (.long 0) ∧ w_ = mw E r (mfd (zI S 0 1) hh ab f hg md (nI (fL S q e m).length) row key grp sm) ∧ (hoR (fL S q e m) row key grp sm)) := by
  refine Ct.of (by decide) (Nat.le_of_ble_eq_true rfl) (lv := [(0, .ref (r 0)), (1, .int (nI q)), (2, .int k)]) rfl ?_
  intro X F hR
  have F : zF X l ({ frames := 6, cells := 0, slots := 0, locals := 200 } : Room) E cX8_key 3 "LiveQueriesModel" := F
  refine z_aload_n (pc := 0) F dX8_key_0 rfl 0 rfl ?_
  refine z_iconst (pc := 1) (v := 1) F dX8_key_1 (by decide) ?_
  refine z_put (pc := 2) (ws' := mw E r (zI S 0 1)) F iX8 tyX8 tyX8_ok nmX8 0 rfl rfl 0 (by decide) tw_858 rfl rfl rfl (Nat.le_of_ble_eq_true rfl) dX8_key_2 rfl ?_
  refine z_aload_n (pc := 5) F dX8_key_5 rfl 0 rfl ?_
  refine z_iload_n (pc := 6) F dX8_key_6 rfl 1 rfl ?_
  refine z_callVW (pc := 7) (q0 := 0) (ci := 8) (rest := []) F (c_X8_isQuery l E r (zI S 0 1) nq (nI q) hn3) 1 ww_Model_235 (by decide +kernel) rfl ⟨Nat.le_of_ble_eq_true rfl, Nat.le_of_ble_eq_true rfl⟩ ⟨Nat.le_of_ble_eq_true rfl, Nat.le_of_ble_eq_true rfl⟩ rfl rfl rfl rfl (Nat.le_of_ble_eq_true rfl) dX8_key_7 (fun v_ w1_ hp => ?_)
  obtain ⟨rfl, rfl⟩ := hp
  show Z X (0) (0) (mw E r (zI S 0 1)) [(0, .ref (r 0)), (1, .int (nI q)), (2, .int k)] 10 [.int (bI (decide (0 ≤ (nI q) ∧ (nI q) ≤ nI nq - 1)))]
  rw [show (bI (decide (0 ≤ (nI q) ∧ (nI q) ≤ nI nq - 1))) = 1 from (wi1 (wiN hq (by omega)))]
  refine z_if_ne (pc := 10) (tgt := 15) F dX8_key_10 (by decide) (fun _ => ?_) (fun h => absurd h (by decide))
  refine z_aload_n (pc := 15) F dX8_key_15 rfl 0 rfl ?_
  refine z_iload_n (pc := 16) F dX8_key_16 rfl 1 rfl ?_
  refine z_callVW (pc := 17) (q0 := 0) (ci := 8) (rest := []) F (c_X8_find2 l E r (zI S 0 1) q e m (by omega) hm hmo (qok_of (S := S) (S' := (zI S 0 1)) rfl rfl hqo) ho) 1 ww_Model_137 (by decide +kernel) rfl ⟨Nat.le_of_ble_eq_true rfl, Nat.le_of_ble_eq_true rfl⟩ ⟨Nat.le_of_ble_eq_true rfl, Nat.le_of_ble_eq_true rfl⟩ rfl rfl rfl rfl (Nat.le_of_ble_eq_true rfl) dX8_key_17 (fun v_ w1_ hp => ?_)
  obtain ⟨hh1, ab1, f1, hg1, md1, row1, key1, grp1, sm1, rfl, rfl, h17_0⟩ := hp
  show Z X (0) (0) (mw E r (mfd (zI S 0 1) hh1 ab1 f1 hg1 md1 (nI (fL S q e m).length) row1 key1 grp1 sm1)) [(0, .ref (r 0)), (1, .int (nI q)), (2, .int k)] 20 []
  refine z_iload_n (pc := 20) F dX8_key_20 rfl 2 rfl ?_
  refine z_iconst (pc := 21) (v := 0) F dX8_key_21 (by decide) ?_
  refine z_aload_n (pc := 22) F dX8_key_22 rfl 0 rfl ?_
  refine z_get (pc := 23) (v := .int (nI (fL S q e m).length)) F iX8 0 rfl rfl 24 (by decide) tw_882 rfl dX8_key_23 ?_
  refine z_iconst (pc := 26) (v := 1) F dX8_key_26 (by decide) ?_
  refine z_isub (pc := 27) F dX8_key_27 ?_
  refine z_callS0 (pc := 28) (rest := []) F (c_X8_within l E k 0 ((nI (fL S q e m).length) - 1)) 3 ww_Model_97 (by decide +kernel) rfl ⟨Nat.le_of_ble_eq_true rfl, Nat.le_of_ble_eq_true rfl⟩ ⟨Nat.le_of_ble_eq_true rfl, Nat.le_of_ble_eq_true rfl⟩ rfl (Nat.le_of_ble_eq_true rfl) dX8_key_28 (fun v_ w1_ hp => ?_)
  obtain ⟨rfl, rfl⟩ := hp
  show Z X (0) (0) (mw E r (mfd (zI S 0 1) hh1 ab1 f1 hg1 md1 (nI (fL S q e m).length) row1 key1 grp1 sm1)) [(0, .ref (r 0)), (1, .int (nI q)), (2, .int k)] 31 [.int (bI (decide (0 ≤ k ∧ k ≤ ((nI (fL S q e m).length) - 1))))]
  rw [show (bI (decide (0 ≤ k ∧ k ≤ ((nI (fL S q e m).length) - 1)))) = 0 from (wi0 hno)]
  refine z_if_ne (pc := 31) (tgt := 36) F dX8_key_31 (by decide) (fun h => absurd h (by decide)) (fun _ => ?_)
  refine z_lconst (pc := 34) (v := 0) F dX8_key_34 (by decide) ?_
  exact z_lret (pc := 35) F hR dX8_key_35 (Nat.le_of_ble_eq_true rfl) (Nat.le_of_ble_eq_true rfl) ⟨hh1, ab1, f1, hg1, md1, row1, key1, grp1, sm1, rfl, rfl, h17_0⟩
set_option maxHeartbeats 4000000 in
set_option maxRecDepth 100000 in
theorem c_X8_group_s (l : Launch) (E : zE) (r : Nat → Nat) (S : zS) (m : Nat) (nq : Nat) (q : Nat) (e : Nat → Nat) (k : Nat) (x : zRow) (w : Int32) (hm : m ≤ 60) (hmo : zi S 2 = nI m) (hnq : nq ≤ 6) (hn3 : zi S 3 = nI nq) (hq : q < nq) (hqo : qok S q e) (ho : objOk S) (hx : (gL (fL S q e m))[k]? = some x) (hw : 0 ≤ w ∧ w ≤ 3) : Ct l yX8_group cX8_group 4 (some .long) ({ frames := 6, cells := 0, slots := 0, locals := 200 } : Room) E (mw E r S) [.ref (r 0), .int (nI q), .int (nI k), .int w] (fun v_ w_ => ∃ hh : Int32, ∃ ab : Int32, ∃ f : Nat → Int64, ∃ hg : Nat → Int32, ∃ md : Nat → Int64, ∃ row : Nat → Int32, ∃ key : Nat → Int64, ∃ grp : Nat → Int64, ∃ sm : Nat → Int64, ∃ va : Nat → Int64, ∃ mn : Nat → Int32, ∃ lo : Nat → Int64, ∃ hi : Nat → Int64, v_ = some (.long (if w = 0 then x.2.1 else if w = 1 then (nI x.1).toInt64 else if w = 2 then x.2.2.1 else x.2.2.2)) ∧ w_ = mw E r (mfg (zI (zI S 0 1) 0 0) hh ab f hg md (nI (fL S q e m).length) row key grp sm (nI (gL (fL S q e m)).length) va mn lo hi)) := by
  refine Ct.of (by decide) (Nat.le_of_ble_eq_true rfl) (lv := [(0, .ref (r 0)), (1, .int (nI q)), (2, .int (nI k)), (3, .int w)]) rfl ?_
  intro X F hR
  have F : zF X l ({ frames := 6, cells := 0, slots := 0, locals := 200 } : Room) E cX8_group 4 "LiveQueriesModel" := F
  have hkl := (List.getElem?_eq_some_iff.mp hx).1
  have hgl : (gL (fL S q e m)).length ≤ 60 := Nat.le_trans (gl_len _ _) (Nat.le_trans (fL_len S q e m) hm)
  refine z_aload_n (pc := 0) F dX8_group_0 rfl 0 rfl ?_
  refine z_iconst (pc := 1) (v := 1) F dX8_group_1 (by decide) ?_
  refine z_put (pc := 2) (ws' := mw E r (zI S 0 1)) F iX8 tyX8 tyX8_ok nmX8 0 rfl rfl 0 (by decide) tw_858 rfl rfl rfl (Nat.le_of_ble_eq_true rfl) dX8_group_2 rfl ?_
  refine z_aload_n (pc := 5) F dX8_group_5 rfl 0 rfl ?_
  refine z_iload_n (pc := 6) F dX8_group_6 rfl 1 rfl ?_
  refine z_callVW (pc := 7) (q0 := 0) (ci := 8) (rest := []) F (c_X8_isQuery l E r (zI S 0 1) nq (nI q) hn3) 1 ww_Model_235 (by decide +kernel) rfl ⟨Nat.le_of_ble_eq_true rfl, Nat.le_of_ble_eq_true rfl⟩ ⟨Nat.le_of_ble_eq_true rfl, Nat.le_of_ble_eq_true rfl⟩ rfl rfl rfl rfl (Nat.le_of_ble_eq_true rfl) dX8_group_7 (fun v_ w1_ hp => ?_)
  obtain ⟨rfl, rfl⟩ := hp
  show Z X (0) (0) (mw E r (zI S 0 1)) [(0, .ref (r 0)), (1, .int (nI q)), (2, .int (nI k)), (3, .int w)] 10 [.int (bI (decide (0 ≤ (nI q) ∧ (nI q) ≤ nI nq - 1)))]
  rw [show (bI (decide (0 ≤ (nI q) ∧ (nI q) ≤ nI nq - 1))) = 1 from (wi1 (wiN hq (by omega)))]
  refine z_if_eq (pc := 10) (tgt := 22) F dX8_group_10 (by decide) (fun h => absurd h (by decide)) (fun _ => ?_)
  refine z_iload_n (pc := 13) F dX8_group_13 rfl 3 rfl ?_
  refine z_iconst (pc := 14) (v := 0) F dX8_group_14 (by decide) ?_
  refine z_iconst (pc := 15) (v := 3) F dX8_group_15 (by decide) ?_
  refine z_callS0 (pc := 16) (rest := []) F (c_X8_within l E w 0 3) 3 ww_Model_97 (by decide +kernel) rfl ⟨Nat.le_of_ble_eq_true rfl, Nat.le_of_ble_eq_true rfl⟩ ⟨Nat.le_of_ble_eq_true rfl, Nat.le_of_ble_eq_true rfl⟩ rfl (Nat.le_of_ble_eq_true rfl) dX8_group_16 (fun v_ w1_ hp => ?_)
  obtain ⟨rfl, rfl⟩ := hp
  show Z X (0) (0) (mw E r (zI S 0 1)) [(0, .ref (r 0)), (1, .int (nI q)), (2, .int (nI k)), (3, .int w)] 19 [.int (bI (decide (0 ≤ w ∧ w ≤ 3)))]
  rw [show (bI (decide (0 ≤ w ∧ w ≤ 3))) = 1 from (wi1 hw)]
  refine z_if_ne (pc := 19) (tgt := 24) F dX8_group_19 (by decide) (fun _ => ?_) (fun h => absurd h (by decide))
  refine z_aload_n (pc := 24) F dX8_group_24 rfl 0 rfl ?_
  refine z_iload_n (pc := 25) F dX8_group_25 rfl 1 rfl ?_
  refine z_callVW (pc := 26) (q0 := 0) (ci := 8) (rest := []) F (c_X8_findGroups l E r (zI S 0 1) q e m (by omega) hm hmo (qok_of (S := S) (S' := (zI S 0 1)) rfl rfl hqo) ho) 1 ww_Model_238 (by decide +kernel) rfl ⟨Nat.le_of_ble_eq_true rfl, Nat.le_of_ble_eq_true rfl⟩ ⟨Nat.le_of_ble_eq_true rfl, Nat.le_of_ble_eq_true rfl⟩ rfl rfl rfl rfl (Nat.le_of_ble_eq_true rfl) dX8_group_26 (fun v_ w1_ hp => ?_)
  obtain ⟨hh1, ab1, f1, hg1, md1, row1, key1, grp1, sm1, va1, mn1, lo1, hi1, rfl, rfl, h26_0, h26_1⟩ := hp
  show Z X (0) (0) (mw E r (mfg (zI S 0 1) hh1 ab1 f1 hg1 md1 (nI (fL S q e m).length) row1 key1 grp1 sm1 (nI (gL (fL S q e m)).length) va1 mn1 lo1 hi1)) [(0, .ref (r 0)), (1, .int (nI q)), (2, .int (nI k)), (3, .int w)] 29 []
  have hho : hoR (gL (fL S q e m)) mn1 va1 lo1 hi1 := h26_1
  obtain ⟨hx1, hx2, hx3, hx4⟩ := hho k x hx
  refine z_iload_n (pc := 29) F dX8_group_29 rfl 2 rfl ?_
  refine z_iconst (pc := 30) (v := 0) F dX8_group_30 (by decide) ?_
  refine z_aload_n (pc := 31) F dX8_group_31 rfl 0 rfl ?_
  refine z_get (pc := 32) (v := .int (nI (gL (fL S q e m)).length)) F iX8 0 rfl rfl 29 (by decide) tw_887 rfl dX8_group_32 ?_
  refine z_iconst (pc := 35) (v := 1) F dX8_group_35 (by decide) ?_
  refine z_isub (pc := 36) F dX8_group_36 ?_
  refine z_callS0 (pc := 37) (rest := []) F (c_X8_within l E (nI k) 0 ((nI (gL (fL S q e m)).length) - 1)) 3 ww_Model_97 (by decide +kernel) rfl ⟨Nat.le_of_ble_eq_true rfl, Nat.le_of_ble_eq_true rfl⟩ ⟨Nat.le_of_ble_eq_true rfl, Nat.le_of_ble_eq_true rfl⟩ rfl (Nat.le_of_ble_eq_true rfl) dX8_group_37 (fun v_ w1_ hp => ?_)
  obtain ⟨rfl, rfl⟩ := hp
  show Z X (0) (0) (mw E r (mfg (zI S 0 1) hh1 ab1 f1 hg1 md1 (nI (fL S q e m).length) row1 key1 grp1 sm1 (nI (gL (fL S q e m)).length) va1 mn1 lo1 hi1)) [(0, .ref (r 0)), (1, .int (nI q)), (2, .int (nI k)), (3, .int w)] 40 [.int (bI (decide (0 ≤ (nI k) ∧ (nI k) ≤ ((nI (gL (fL S q e m)).length) - 1))))]
  rw [show (bI (decide (0 ≤ (nI k) ∧ (nI k) ≤ ((nI (gL (fL S q e m)).length) - 1)))) = 1 from (wi1 (wiN hkl (by omega)))]
  refine z_if_ne (pc := 40) (tgt := 45) F dX8_group_40 (by decide) (fun _ => ?_) (fun h => absurd h (by decide))
  refine z_aload_n (pc := 45) F dX8_group_45 rfl 0 rfl ?_
  refine z_iconst (pc := 46) (v := 0) F dX8_group_46 (by decide) ?_
  refine z_put (pc := 47) (ws' := mw E r (mfg (zI (zI S 0 1) 0 0) hh1 ab1 f1 hg1 md1 (nI (fL S q e m).length) row1 key1 grp1 sm1 (nI (gL (fL S q e m)).length) va1 mn1 lo1 hi1)) F iX8 tyX8 tyX8_ok nmX8 0 rfl rfl 0 (by decide) tw_858 rfl rfl rfl (Nat.le_of_ble_eq_true rfl) dX8_group_47 rfl ?_
  refine z_iload_n (pc := 50) F dX8_group_50 rfl 3 rfl ?_
  refine z_if_ne (pc := 51) (tgt := 63) F dX8_group_51 (by decide) (fun c51 => ?_) (fun c51 => ?_)
  · refine z_iload_n (pc := 63) F dX8_group_63 rfl 3 rfl ?_
    refine z_iconst (pc := 64) (v := 1) F dX8_group_64 (by decide) ?_
    refine z_icmp_ne (pc := 65) (tgt := 78) F dX8_group_65 (by decide) (fun c65 => ?_) (fun c65 => ?_)
    · refine z_iload_n (pc := 78) F dX8_group_78 rfl 3 rfl ?_
      refine z_iconst (pc := 79) (v := 2) F dX8_group_79 (by decide) ?_
      refine z_icmp_ne (pc := 80) (tgt := 92) F dX8_group_80 (by decide) (fun c80 => ?_) (fun c80 => ?_)
      · refine z_aload_n (pc := 92) F dX8_group_92 rfl 0 rfl ?_
        refine z_get (pc := 93) (v := .ref (r 25)) F iX8 0 rfl rfl 33 (by decide) tw_891 rfl dX8_group_93 ?_
        refine z_iload_n (pc := 96) F dX8_group_96 rfl 2 rfl ?_
        refine z_laldN (pc := 97) (f := hi1) F 25 1 rfl rfl k rfl (by omega) (by decide) dX8_group_97 ?_
        rw [show ((hi1) k) = x.2.2.2 from hx4]
        exact z_lret (pc := 98) F hR dX8_group_98 (Nat.le_of_ble_eq_true rfl) (Nat.le_of_ble_eq_true rfl) ⟨hh1, ab1, f1, hg1, md1, row1, key1, grp1, sm1, va1, mn1, lo1, hi1, by simp [c51, c65, c80], rfl⟩
      · refine z_aload_n (pc := 83) F dX8_group_83 rfl 0 rfl ?_
        refine z_get (pc := 84) (v := .ref (r 24)) F iX8 0 rfl rfl 32 (by decide) tw_890 rfl dX8_group_84 ?_
        refine z_iload_n (pc := 87) F dX8_group_87 rfl 2 rfl ?_
        refine z_laldN (pc := 88) (f := lo1) F 24 1 rfl rfl k rfl (by omega) (by decide) dX8_group_88 ?_
        rw [show ((lo1) k) = x.2.2.1 from hx3]
        refine z_goto (pc := 89) (tgt := 98) F dX8_group_89 (by decide) ?_
        exact z_lret (pc := 98) F hR dX8_group_98 (Nat.le_of_ble_eq_true rfl) (Nat.le_of_ble_eq_true rfl) ⟨hh1, ab1, f1, hg1, md1, row1, key1, grp1, sm1, va1, mn1, lo1, hi1, by simp [c51, c65, c80], rfl⟩
    · refine z_aload_n (pc := 68) F dX8_group_68 rfl 0 rfl ?_
      refine z_get (pc := 69) (v := .ref (r 23)) F iX8 0 rfl rfl 31 (by decide) tw_889 rfl dX8_group_69 ?_
      refine z_iload_n (pc := 72) F dX8_group_72 rfl 2 rfl ?_
      refine z_ialdN (pc := 73) (f := mn1) F 23 0 rfl rfl k rfl (by omega) (by decide) dX8_group_73 ?_
      rw [show ((mn1) k) = nI x.1 from hx1]
      refine z_i2l (pc := 74) F dX8_group_74 ?_
      refine z_goto (pc := 75) (tgt := 98) F dX8_group_75 (by decide) ?_
      exact z_lret (pc := 98) F hR dX8_group_98 (Nat.le_of_ble_eq_true rfl) (Nat.le_of_ble_eq_true rfl) ⟨hh1, ab1, f1, hg1, md1, row1, key1, grp1, sm1, va1, mn1, lo1, hi1, by simp [c51, c65], rfl⟩
  · refine z_aload_n (pc := 54) F dX8_group_54 rfl 0 rfl ?_
    refine z_get (pc := 55) (v := .ref (r 22)) F iX8 0 rfl rfl 30 (by decide) tw_888 rfl dX8_group_55 ?_
    refine z_iload_n (pc := 58) F dX8_group_58 rfl 2 rfl ?_
    refine z_laldN (pc := 59) (f := va1) F 22 1 rfl rfl k rfl (by omega) (by decide) dX8_group_59 ?_
    rw [show ((va1) k) = x.2.1 from hx2]
    refine z_goto (pc := 60) (tgt := 98) F dX8_group_60 (by decide) ?_
    exact z_lret (pc := 98) F hR dX8_group_98 (Nat.le_of_ble_eq_true rfl) (Nat.le_of_ble_eq_true rfl) ⟨hh1, ab1, f1, hg1, md1, row1, key1, grp1, sm1, va1, mn1, lo1, hi1, by simp [c51], rfl⟩
set_option maxHeartbeats 4000000 in
set_option maxRecDepth 100000 in
theorem c_X8_group_n (l : Launch) (E : zE) (r : Nat → Nat) (S : zS) (m : Nat) (nq : Nat) (q : Nat) (e : Nat → Nat) (k : Int32) (w : Int32) (hm : m ≤ 60) (hmo : zi S 2 = nI m) (hnq : nq ≤ 6) (hn3 : zi S 3 = nI nq) (hq : q < nq) (hqo : qok S q e) (ho : objOk S) (hw : 0 ≤ w ∧ w ≤ 3) (hno : ¬ (0 ≤ k ∧ k ≤ nI (gL (fL S q e m)).length - 1)) : Ct l yX8_group cX8_group 4 (some .long) ({ frames := 6, cells := 0, slots := 0, locals := 200 } : Room) E (mw E r S) [.ref (r 0), .int (nI q), .int k, .int w] (fun v_ w_ => ∃ hh : Int32, ∃ ab : Int32, ∃ f : Nat → Int64, ∃ hg : Nat → Int32, ∃ md : Nat → Int64, ∃ row : Nat → Int32, ∃ key : Nat → Int64, ∃ grp : Nat → Int64, ∃ sm : Nat → Int64, ∃ va : Nat → Int64, ∃ mn : Nat → Int32, ∃ lo : Nat → Int64, ∃ hi : Nat → Int64, v_ = some (.long 0) ∧ w_ = mw E r (mfg (zI S 0 1) hh ab f hg md (nI (fL S q e m).length) row key grp sm (nI (gL (fL S q e m)).length) va mn lo hi)) := by
  refine Ct.of (by decide) (Nat.le_of_ble_eq_true rfl) (lv := [(0, .ref (r 0)), (1, .int (nI q)), (2, .int k), (3, .int w)]) rfl ?_
  intro X F hR
  have F : zF X l ({ frames := 6, cells := 0, slots := 0, locals := 200 } : Room) E cX8_group 4 "LiveQueriesModel" := F
  refine z_aload_n (pc := 0) F dX8_group_0 rfl 0 rfl ?_
  refine z_iconst (pc := 1) (v := 1) F dX8_group_1 (by decide) ?_
  refine z_put (pc := 2) (ws' := mw E r (zI S 0 1)) F iX8 tyX8 tyX8_ok nmX8 0 rfl rfl 0 (by decide) tw_858 rfl rfl rfl (Nat.le_of_ble_eq_true rfl) dX8_group_2 rfl ?_
  refine z_aload_n (pc := 5) F dX8_group_5 rfl 0 rfl ?_
  refine z_iload_n (pc := 6) F dX8_group_6 rfl 1 rfl ?_
  refine z_callVW (pc := 7) (q0 := 0) (ci := 8) (rest := []) F (c_X8_isQuery l E r (zI S 0 1) nq (nI q) hn3) 1 ww_Model_235 (by decide +kernel) rfl ⟨Nat.le_of_ble_eq_true rfl, Nat.le_of_ble_eq_true rfl⟩ ⟨Nat.le_of_ble_eq_true rfl, Nat.le_of_ble_eq_true rfl⟩ rfl rfl rfl rfl (Nat.le_of_ble_eq_true rfl) dX8_group_7 (fun v_ w1_ hp => ?_)
  obtain ⟨rfl, rfl⟩ := hp
  show Z X (0) (0) (mw E r (zI S 0 1)) [(0, .ref (r 0)), (1, .int (nI q)), (2, .int k), (3, .int w)] 10 [.int (bI (decide (0 ≤ (nI q) ∧ (nI q) ≤ nI nq - 1)))]
  rw [show (bI (decide (0 ≤ (nI q) ∧ (nI q) ≤ nI nq - 1))) = 1 from (wi1 (wiN hq (by omega)))]
  refine z_if_eq (pc := 10) (tgt := 22) F dX8_group_10 (by decide) (fun h => absurd h (by decide)) (fun _ => ?_)
  refine z_iload_n (pc := 13) F dX8_group_13 rfl 3 rfl ?_
  refine z_iconst (pc := 14) (v := 0) F dX8_group_14 (by decide) ?_
  refine z_iconst (pc := 15) (v := 3) F dX8_group_15 (by decide) ?_
  refine z_callS0 (pc := 16) (rest := []) F (c_X8_within l E w 0 3) 3 ww_Model_97 (by decide +kernel) rfl ⟨Nat.le_of_ble_eq_true rfl, Nat.le_of_ble_eq_true rfl⟩ ⟨Nat.le_of_ble_eq_true rfl, Nat.le_of_ble_eq_true rfl⟩ rfl (Nat.le_of_ble_eq_true rfl) dX8_group_16 (fun v_ w1_ hp => ?_)
  obtain ⟨rfl, rfl⟩ := hp
  show Z X (0) (0) (mw E r (zI S 0 1)) [(0, .ref (r 0)), (1, .int (nI q)), (2, .int k), (3, .int w)] 19 [.int (bI (decide (0 ≤ w ∧ w ≤ 3)))]
  rw [show (bI (decide (0 ≤ w ∧ w ≤ 3))) = 1 from (wi1 hw)]
  refine z_if_ne (pc := 19) (tgt := 24) F dX8_group_19 (by decide) (fun _ => ?_) (fun h => absurd h (by decide))
  refine z_aload_n (pc := 24) F dX8_group_24 rfl 0 rfl ?_
  refine z_iload_n (pc := 25) F dX8_group_25 rfl 1 rfl ?_
  refine z_callVW (pc := 26) (q0 := 0) (ci := 8) (rest := []) F (c_X8_findGroups l E r (zI S 0 1) q e m (by omega) hm hmo (qok_of (S := S) (S' := (zI S 0 1)) rfl rfl hqo) ho) 1 ww_Model_238 (by decide +kernel) rfl ⟨Nat.le_of_ble_eq_true rfl, Nat.le_of_ble_eq_true rfl⟩ ⟨Nat.le_of_ble_eq_true rfl, Nat.le_of_ble_eq_true rfl⟩ rfl rfl rfl rfl (Nat.le_of_ble_eq_true rfl) dX8_group_26 (fun v_ w1_ hp => ?_)
  obtain ⟨hh1, ab1, f1, hg1, md1, row1, key1, grp1, sm1, va1, mn1, lo1, hi1, rfl, rfl, h26_0, h26_1⟩ := hp
  show Z X (0) (0) (mw E r (mfg (zI S 0 1) hh1 ab1 f1 hg1 md1 (nI (fL S q e m).length) row1 key1 grp1 sm1 (nI (gL (fL S q e m)).length) va1 mn1 lo1 hi1)) [(0, .ref (r 0)), (1, .int (nI q)), (2, .int k), (3, .int w)] 29 []
  refine z_iload_n (pc := 29) F dX8_group_29 rfl 2 rfl ?_
  refine z_iconst (pc := 30) (v := 0) F dX8_group_30 (by decide) ?_
  refine z_aload_n (pc := 31) F dX8_group_31 rfl 0 rfl ?_
  refine z_get (pc := 32) (v := .int (nI (gL (fL S q e m)).length)) F iX8 0 rfl rfl 29 (by decide) tw_887 rfl dX8_group_32 ?_
  refine z_iconst (pc := 35) (v := 1) F dX8_group_35 (by decide) ?_
  refine z_isub (pc := 36) F dX8_group_36 ?_
  refine z_callS0 (pc := 37) (rest := []) F (c_X8_within l E k 0 ((nI (gL (fL S q e m)).length) - 1)) 3 ww_Model_97 (by decide +kernel) rfl ⟨Nat.le_of_ble_eq_true rfl, Nat.le_of_ble_eq_true rfl⟩ ⟨Nat.le_of_ble_eq_true rfl, Nat.le_of_ble_eq_true rfl⟩ rfl (Nat.le_of_ble_eq_true rfl) dX8_group_37 (fun v_ w1_ hp => ?_)
  obtain ⟨rfl, rfl⟩ := hp
  show Z X (0) (0) (mw E r (mfg (zI S 0 1) hh1 ab1 f1 hg1 md1 (nI (fL S q e m).length) row1 key1 grp1 sm1 (nI (gL (fL S q e m)).length) va1 mn1 lo1 hi1)) [(0, .ref (r 0)), (1, .int (nI q)), (2, .int k), (3, .int w)] 40 [.int (bI (decide (0 ≤ k ∧ k ≤ ((nI (gL (fL S q e m)).length) - 1))))]
  rw [show (bI (decide (0 ≤ k ∧ k ≤ ((nI (gL (fL S q e m)).length) - 1)))) = 0 from (wi0 hno)]
  refine z_if_ne (pc := 40) (tgt := 45) F dX8_group_40 (by decide) (fun h => absurd h (by decide)) (fun _ => ?_)
  refine z_lconst (pc := 43) (v := 0) F dX8_group_43 (by decide) ?_
  exact z_lret (pc := 44) F hR dX8_group_44 (Nat.le_of_ble_eq_true rfl) (Nat.le_of_ble_eq_true rfl) ⟨hh1, ab1, f1, hg1, md1, row1, key1, grp1, sm1, va1, mn1, lo1, hi1, rfl, rfl⟩
set_option maxHeartbeats 4000000 in
set_option maxRecDepth 100000 in
theorem c_X8_group_w (l : Launch) (E : zE) (r : Nat → Nat) (S : zS) (m : Nat) (nq : Nat) (q : Int32) (k : Int32) (w : Int32) (hm : m ≤ 60) (hn3 : zi S 3 = nI nq) (hno : ¬ (0 ≤ w ∧ w ≤ 3)) : Ct l yX8_group cX8_group 4 (some .long) ({ frames := 6, cells := 0, slots := 0, locals := 200 } : Room) E (mw E r S) [.ref (r 0), .int q, .int k, .int w] (fun v_ w_ => v_ = some (.long 0) ∧ w_ = mw E r (zI S 0 1)) := by
  refine Ct.of (by decide) (Nat.le_of_ble_eq_true rfl) (lv := [(0, .ref (r 0)), (1, .int q), (2, .int k), (3, .int w)]) rfl ?_
  intro X F hR
  have F : zF X l ({ frames := 6, cells := 0, slots := 0, locals := 200 } : Room) E cX8_group 4 "LiveQueriesModel" := F
  refine z_aload_n (pc := 0) F dX8_group_0 rfl 0 rfl ?_
  refine z_iconst (pc := 1) (v := 1) F dX8_group_1 (by decide) ?_
  refine z_put (pc := 2) (ws' := mw E r (zI S 0 1)) F iX8 tyX8 tyX8_ok nmX8 0 rfl rfl 0 (by decide) tw_858 rfl rfl rfl (Nat.le_of_ble_eq_true rfl) dX8_group_2 rfl ?_
  refine z_aload_n (pc := 5) F dX8_group_5 rfl 0 rfl ?_
  refine z_iload_n (pc := 6) F dX8_group_6 rfl 1 rfl ?_
  refine z_callVW (pc := 7) (q0 := 0) (ci := 8) (rest := []) F (c_X8_isQuery l E r (zI S 0 1) nq q hn3) 1 ww_Model_235 (by decide +kernel) rfl ⟨Nat.le_of_ble_eq_true rfl, Nat.le_of_ble_eq_true rfl⟩ ⟨Nat.le_of_ble_eq_true rfl, Nat.le_of_ble_eq_true rfl⟩ rfl rfl rfl rfl (Nat.le_of_ble_eq_true rfl) dX8_group_7 (fun v_ w1_ hp => ?_)
  obtain ⟨rfl, rfl⟩ := hp
  show Z X (0) (0) (mw E r (zI S 0 1)) [(0, .ref (r 0)), (1, .int q), (2, .int k), (3, .int w)] 10 [.int (bI (decide (0 ≤ q ∧ q ≤ nI nq - 1)))]
  refine z_if_eq (pc := 10) (tgt := 22) F dX8_group_10 (by decide) (fun c10 => ?_) (fun c10 => ?_)
  · replace c10 := bI_f c10
    refine z_lconst (pc := 22) (v := 0) F dX8_group_22 (by decide) ?_
    exact z_lret (pc := 23) F hR dX8_group_23 (Nat.le_of_ble_eq_true rfl) (Nat.le_of_ble_eq_true rfl) ⟨rfl, rfl⟩
  · replace c10 := bI_t c10
    refine z_iload_n (pc := 13) F dX8_group_13 rfl 3 rfl ?_
    refine z_iconst (pc := 14) (v := 0) F dX8_group_14 (by decide) ?_
    refine z_iconst (pc := 15) (v := 3) F dX8_group_15 (by decide) ?_
    refine z_callS0 (pc := 16) (rest := []) F (c_X8_within l E w 0 3) 3 ww_Model_97 (by decide +kernel) rfl ⟨Nat.le_of_ble_eq_true rfl, Nat.le_of_ble_eq_true rfl⟩ ⟨Nat.le_of_ble_eq_true rfl, Nat.le_of_ble_eq_true rfl⟩ rfl (Nat.le_of_ble_eq_true rfl) dX8_group_16 (fun v_ w1_ hp => ?_)
    obtain ⟨rfl, rfl⟩ := hp
    show Z X (0) (0) (mw E r (zI S 0 1)) [(0, .ref (r 0)), (1, .int q), (2, .int k), (3, .int w)] 19 [.int (bI (decide (0 ≤ w ∧ w ≤ 3)))]
    rw [show (bI (decide (0 ≤ w ∧ w ≤ 3))) = 0 from (wi0 hno)]
    refine z_if_ne (pc := 19) (tgt := 24) F dX8_group_19 (by decide) (fun h => absurd h (by decide)) (fun _ => ?_)
    refine z_lconst (pc := 22) (v := 0) F dX8_group_22 (by decide) ?_
    exact z_lret (pc := 23) F hR dX8_group_23 (Nat.le_of_ble_eq_true rfl) (Nat.le_of_ble_eq_true rfl) ⟨rfl, rfl⟩
set_option maxHeartbeats 4000000 in
set_option maxRecDepth 100000 in
theorem c_X8_differ_0 (l : Launch) (E : zE) (r : Nat → Nat) (S : zS) (D : List (Nat × Nat × Bool)) (k : Nat) (x : Nat × Nat × Bool) (hd : zi S 4 = nI D.length) (hdR : dfR D (za S 13)) (hD : D.length ≤ 360) (hx : D[k]? = some x) : Ct l yX8_differ cX8_differ 3 (some .int) ({ frames := 6, cells := 0, slots := 0, locals := 200 } : Room) E (mw E r S) [.ref (r 0), .int (nI k), .int (nI 0)] (fun v_ w_ => v_ = some (.int (nI x.1)) ∧ w_ = mw E r (zI S 0 0)) := by
  refine Ct.of (by decide) (Nat.le_of_ble_eq_true rfl) (lv := [(0, .ref (r 0)), (1, .int (nI k)), (2, .int (nI 0))]) rfl ?_
  intro X F hR
  have F : zF X l ({ frames := 6, cells := 0, slots := 0, locals := 200 } : Room) E cX8_differ 3 "LiveQueriesModel" := F
  have hkl := (List.getElem?_eq_some_iff.mp hx).1
  obtain ⟨hd0, hd1, hd2⟩ := hdR k x hx
  refine z_aload_n (pc := 0) F dX8_differ_0 rfl 0 rfl ?_
  refine z_iconst (pc := 1) (v := 0) F dX8_differ_1 (by decide) ?_
  refine z_put (pc := 2) (ws' := mw E r (zI S 0 0)) F iX8 tyX8 tyX8_ok nmX8 0 rfl rfl 0 (by decide) tw_858 rfl rfl rfl (Nat.le_of_ble_eq_true rfl) dX8_differ_2 rfl ?_
  refine z_iload_n (pc := 5) F dX8_differ_5 rfl 1 rfl ?_
  refine z_iconst (pc := 6) (v := 0) F dX8_differ_6 (by decide) ?_
  refine z_aload_n (pc := 7) F dX8_differ_7 rfl 0 rfl ?_
  refine z_get (pc := 8) (v := .int (zi S 4)) F iX8 0 rfl rfl 16 (by decide) tw_874 rfl dX8_differ_8 ?_
  rw [show (zi S 4) = nI D.length from hd]
  refine z_iconst (pc := 11) (v := 1) F dX8_differ_11 (by decide) ?_
  refine z_isub (pc := 12) F dX8_differ_12 ?_
  refine z_callS0 (pc := 13) (rest := []) F (c_X8_within l E (nI k) 0 ((nI D.length) - 1)) 3 ww_Model_97 (by decide +kernel) rfl ⟨Nat.le_of_ble_eq_true rfl, Nat.le_of_ble_eq_true rfl⟩ ⟨Nat.le_of_ble_eq_true rfl, Nat.le_of_ble_eq_true rfl⟩ rfl (Nat.le_of_ble_eq_true rfl) dX8_differ_13 (fun v_ w1_ hp => ?_)
  obtain ⟨rfl, rfl⟩ := hp
  show Z X (0) (0) (mw E r (zI S 0 0)) [(0, .ref (r 0)), (1, .int (nI k)), (2, .int (nI 0))] 16 [.int (bI (decide (0 ≤ (nI k) ∧ (nI k) ≤ ((nI D.length) - 1))))]
  rw [show (bI (decide (0 ≤ (nI k) ∧ (nI k) ≤ ((nI D.length) - 1)))) = 1 from (wi1 (wiN hkl (by omega)))]
  refine z_if_eq (pc := 16) (tgt := 41) F dX8_differ_16 (by decide) (fun h => absurd h (by decide)) (fun _ => ?_)
  refine z_iload_n (pc := 19) F dX8_differ_19 rfl 2 rfl ?_
  refine z_iconst (pc := 20) (v := 0) F dX8_differ_20 (by decide) ?_
  refine z_iconst (pc := 21) (v := 2) F dX8_differ_21 (by decide) ?_
  refine z_callS0 (pc := 22) (rest := []) F (c_X8_within l E (nI 0) 0 2) 3 ww_Model_97 (by decide +kernel) rfl ⟨Nat.le_of_ble_eq_true rfl, Nat.le_of_ble_eq_true rfl⟩ ⟨Nat.le_of_ble_eq_true rfl, Nat.le_of_ble_eq_true rfl⟩ rfl (Nat.le_of_ble_eq_true rfl) dX8_differ_22 (fun v_ w1_ hp => ?_)
  obtain ⟨rfl, rfl⟩ := hp
  show Z X (0) (0) (mw E r (zI S 0 0)) [(0, .ref (r 0)), (1, .int (nI k)), (2, .int (nI 0))] 25 [.int (bI (decide (0 ≤ (nI 0) ∧ (nI 0) ≤ 2)))]
  rw [show (bI (decide (0 ≤ (nI 0) ∧ (nI 0) ≤ 2))) = 1 from (by decide)]
  refine z_if_eq (pc := 25) (tgt := 41) F dX8_differ_25 (by decide) (fun h => absurd h (by decide)) (fun _ => ?_)
  refine z_aload_n (pc := 28) F dX8_differ_28 rfl 0 rfl ?_
  refine z_get (pc := 29) (v := .ref (r 13)) F iX8 0 rfl rfl 17 (by decide) tw_875 rfl dX8_differ_29 ?_
  refine z_iconst (pc := 32) (v := 3) F dX8_differ_32 (by decide) ?_
  refine z_iload_n (pc := 33) F dX8_differ_33 rfl 1 rfl ?_
  refine z_imul (pc := 34) F dX8_differ_34 ?_
  refine z_iload_n (pc := 35) F dX8_differ_35 rfl 2 rfl ?_
  refine z_iadd (pc := 36) F dX8_differ_36 ?_
  refine z_ialdN (pc := 37) (f := za S 13) F 13 0 rfl rfl (3 * k) (ix3b (p := 0)) (by omega) (by decide) dX8_differ_37 ?_
  rw [show (za S 13 (3 * k)) = nI x.1 from hd0]
  refine z_goto (pc := 38) (tgt := 42) F dX8_differ_38 (by decide) ?_
  exact z_iret (pc := 42) F hR dX8_differ_42 (Nat.le_of_ble_eq_true rfl) (Nat.le_of_ble_eq_true rfl) ⟨rfl, rfl⟩
set_option maxHeartbeats 4000000 in
set_option maxRecDepth 100000 in
theorem c_X8_differ_1 (l : Launch) (E : zE) (r : Nat → Nat) (S : zS) (D : List (Nat × Nat × Bool)) (k : Nat) (x : Nat × Nat × Bool) (hd : zi S 4 = nI D.length) (hdR : dfR D (za S 13)) (hD : D.length ≤ 360) (hx : D[k]? = some x) : Ct l yX8_differ cX8_differ 3 (some .int) ({ frames := 6, cells := 0, slots := 0, locals := 200 } : Room) E (mw E r S) [.ref (r 0), .int (nI k), .int (nI 1)] (fun v_ w_ => v_ = some (.int (nI x.2.1)) ∧ w_ = mw E r (zI S 0 0)) := by
  refine Ct.of (by decide) (Nat.le_of_ble_eq_true rfl) (lv := [(0, .ref (r 0)), (1, .int (nI k)), (2, .int (nI 1))]) rfl ?_
  intro X F hR
  have F : zF X l ({ frames := 6, cells := 0, slots := 0, locals := 200 } : Room) E cX8_differ 3 "LiveQueriesModel" := F
  have hkl := (List.getElem?_eq_some_iff.mp hx).1
  obtain ⟨hd0, hd1, hd2⟩ := hdR k x hx
  refine z_aload_n (pc := 0) F dX8_differ_0 rfl 0 rfl ?_
  refine z_iconst (pc := 1) (v := 0) F dX8_differ_1 (by decide) ?_
  refine z_put (pc := 2) (ws' := mw E r (zI S 0 0)) F iX8 tyX8 tyX8_ok nmX8 0 rfl rfl 0 (by decide) tw_858 rfl rfl rfl (Nat.le_of_ble_eq_true rfl) dX8_differ_2 rfl ?_
  refine z_iload_n (pc := 5) F dX8_differ_5 rfl 1 rfl ?_
  refine z_iconst (pc := 6) (v := 0) F dX8_differ_6 (by decide) ?_
  refine z_aload_n (pc := 7) F dX8_differ_7 rfl 0 rfl ?_
  refine z_get (pc := 8) (v := .int (zi S 4)) F iX8 0 rfl rfl 16 (by decide) tw_874 rfl dX8_differ_8 ?_
  rw [show (zi S 4) = nI D.length from hd]
  refine z_iconst (pc := 11) (v := 1) F dX8_differ_11 (by decide) ?_
  refine z_isub (pc := 12) F dX8_differ_12 ?_
  refine z_callS0 (pc := 13) (rest := []) F (c_X8_within l E (nI k) 0 ((nI D.length) - 1)) 3 ww_Model_97 (by decide +kernel) rfl ⟨Nat.le_of_ble_eq_true rfl, Nat.le_of_ble_eq_true rfl⟩ ⟨Nat.le_of_ble_eq_true rfl, Nat.le_of_ble_eq_true rfl⟩ rfl (Nat.le_of_ble_eq_true rfl) dX8_differ_13 (fun v_ w1_ hp => ?_)
  obtain ⟨rfl, rfl⟩ := hp
  show Z X (0) (0) (mw E r (zI S 0 0)) [(0, .ref (r 0)), (1, .int (nI k)), (2, .int (nI 1))] 16 [.int (bI (decide (0 ≤ (nI k) ∧ (nI k) ≤ ((nI D.length) - 1))))]
  rw [show (bI (decide (0 ≤ (nI k) ∧ (nI k) ≤ ((nI D.length) - 1)))) = 1 from (wi1 (wiN hkl (by omega)))]
  refine z_if_eq (pc := 16) (tgt := 41) F dX8_differ_16 (by decide) (fun h => absurd h (by decide)) (fun _ => ?_)
  refine z_iload_n (pc := 19) F dX8_differ_19 rfl 2 rfl ?_
  refine z_iconst (pc := 20) (v := 0) F dX8_differ_20 (by decide) ?_
  refine z_iconst (pc := 21) (v := 2) F dX8_differ_21 (by decide) ?_
  refine z_callS0 (pc := 22) (rest := []) F (c_X8_within l E (nI 1) 0 2) 3 ww_Model_97 (by decide +kernel) rfl ⟨Nat.le_of_ble_eq_true rfl, Nat.le_of_ble_eq_true rfl⟩ ⟨Nat.le_of_ble_eq_true rfl, Nat.le_of_ble_eq_true rfl⟩ rfl (Nat.le_of_ble_eq_true rfl) dX8_differ_22 (fun v_ w1_ hp => ?_)
  obtain ⟨rfl, rfl⟩ := hp
  show Z X (0) (0) (mw E r (zI S 0 0)) [(0, .ref (r 0)), (1, .int (nI k)), (2, .int (nI 1))] 25 [.int (bI (decide (0 ≤ (nI 1) ∧ (nI 1) ≤ 2)))]
  rw [show (bI (decide (0 ≤ (nI 1) ∧ (nI 1) ≤ 2))) = 1 from (by decide)]
  refine z_if_eq (pc := 25) (tgt := 41) F dX8_differ_25 (by decide) (fun h => absurd h (by decide)) (fun _ => ?_)
  refine z_aload_n (pc := 28) F dX8_differ_28 rfl 0 rfl ?_
  refine z_get (pc := 29) (v := .ref (r 13)) F iX8 0 rfl rfl 17 (by decide) tw_875 rfl dX8_differ_29 ?_
  refine z_iconst (pc := 32) (v := 3) F dX8_differ_32 (by decide) ?_
  refine z_iload_n (pc := 33) F dX8_differ_33 rfl 1 rfl ?_
  refine z_imul (pc := 34) F dX8_differ_34 ?_
  refine z_iload_n (pc := 35) F dX8_differ_35 rfl 2 rfl ?_
  refine z_iadd (pc := 36) F dX8_differ_36 ?_
  refine z_ialdN (pc := 37) (f := za S 13) F 13 0 rfl rfl (3 * k + 1) (ix3b (p := 1)) (by omega) (by decide) dX8_differ_37 ?_
  rw [show (za S 13 (3 * k + 1)) = nI x.2.1 from hd1]
  refine z_goto (pc := 38) (tgt := 42) F dX8_differ_38 (by decide) ?_
  exact z_iret (pc := 42) F hR dX8_differ_42 (Nat.le_of_ble_eq_true rfl) (Nat.le_of_ble_eq_true rfl) ⟨rfl, rfl⟩
set_option maxHeartbeats 4000000 in
set_option maxRecDepth 100000 in
theorem c_X8_differ_2 (l : Launch) (E : zE) (r : Nat → Nat) (S : zS) (D : List (Nat × Nat × Bool)) (k : Nat) (x : Nat × Nat × Bool) (hd : zi S 4 = nI D.length) (hdR : dfR D (za S 13)) (hD : D.length ≤ 360) (hx : D[k]? = some x) : Ct l yX8_differ cX8_differ 3 (some .int) ({ frames := 6, cells := 0, slots := 0, locals := 200 } : Room) E (mw E r S) [.ref (r 0), .int (nI k), .int (nI 2)] (fun v_ w_ => v_ = some (.int (bI x.2.2)) ∧ w_ = mw E r (zI S 0 0)) := by
  refine Ct.of (by decide) (Nat.le_of_ble_eq_true rfl) (lv := [(0, .ref (r 0)), (1, .int (nI k)), (2, .int (nI 2))]) rfl ?_
  intro X F hR
  have F : zF X l ({ frames := 6, cells := 0, slots := 0, locals := 200 } : Room) E cX8_differ 3 "LiveQueriesModel" := F
  have hkl := (List.getElem?_eq_some_iff.mp hx).1
  obtain ⟨hd0, hd1, hd2⟩ := hdR k x hx
  refine z_aload_n (pc := 0) F dX8_differ_0 rfl 0 rfl ?_
  refine z_iconst (pc := 1) (v := 0) F dX8_differ_1 (by decide) ?_
  refine z_put (pc := 2) (ws' := mw E r (zI S 0 0)) F iX8 tyX8 tyX8_ok nmX8 0 rfl rfl 0 (by decide) tw_858 rfl rfl rfl (Nat.le_of_ble_eq_true rfl) dX8_differ_2 rfl ?_
  refine z_iload_n (pc := 5) F dX8_differ_5 rfl 1 rfl ?_
  refine z_iconst (pc := 6) (v := 0) F dX8_differ_6 (by decide) ?_
  refine z_aload_n (pc := 7) F dX8_differ_7 rfl 0 rfl ?_
  refine z_get (pc := 8) (v := .int (zi S 4)) F iX8 0 rfl rfl 16 (by decide) tw_874 rfl dX8_differ_8 ?_
  rw [show (zi S 4) = nI D.length from hd]
  refine z_iconst (pc := 11) (v := 1) F dX8_differ_11 (by decide) ?_
  refine z_isub (pc := 12) F dX8_differ_12 ?_
  refine z_callS0 (pc := 13) (rest := []) F (c_X8_within l E (nI k) 0 ((nI D.length) - 1)) 3 ww_Model_97 (by decide +kernel) rfl ⟨Nat.le_of_ble_eq_true rfl, Nat.le_of_ble_eq_true rfl⟩ ⟨Nat.le_of_ble_eq_true rfl, Nat.le_of_ble_eq_true rfl⟩ rfl (Nat.le_of_ble_eq_true rfl) dX8_differ_13 (fun v_ w1_ hp => ?_)
  obtain ⟨rfl, rfl⟩ := hp
  show Z X (0) (0) (mw E r (zI S 0 0)) [(0, .ref (r 0)), (1, .int (nI k)), (2, .int (nI 2))] 16 [.int (bI (decide (0 ≤ (nI k) ∧ (nI k) ≤ ((nI D.length) - 1))))]
  rw [show (bI (decide (0 ≤ (nI k) ∧ (nI k) ≤ ((nI D.length) - 1)))) = 1 from (wi1 (wiN hkl (by omega)))]
  refine z_if_eq (pc := 16) (tgt := 41) F dX8_differ_16 (by decide) (fun h => absurd h (by decide)) (fun _ => ?_)
  refine z_iload_n (pc := 19) F dX8_differ_19 rfl 2 rfl ?_
  refine z_iconst (pc := 20) (v := 0) F dX8_differ_20 (by decide) ?_
  refine z_iconst (pc := 21) (v := 2) F dX8_differ_21 (by decide) ?_
  refine z_callS0 (pc := 22) (rest := []) F (c_X8_within l E (nI 2) 0 2) 3 ww_Model_97 (by decide +kernel) rfl ⟨Nat.le_of_ble_eq_true rfl, Nat.le_of_ble_eq_true rfl⟩ ⟨Nat.le_of_ble_eq_true rfl, Nat.le_of_ble_eq_true rfl⟩ rfl (Nat.le_of_ble_eq_true rfl) dX8_differ_22 (fun v_ w1_ hp => ?_)
  obtain ⟨rfl, rfl⟩ := hp
  show Z X (0) (0) (mw E r (zI S 0 0)) [(0, .ref (r 0)), (1, .int (nI k)), (2, .int (nI 2))] 25 [.int (bI (decide (0 ≤ (nI 2) ∧ (nI 2) ≤ 2)))]
  rw [show (bI (decide (0 ≤ (nI 2) ∧ (nI 2) ≤ 2))) = 1 from (by decide)]
  refine z_if_eq (pc := 25) (tgt := 41) F dX8_differ_25 (by decide) (fun h => absurd h (by decide)) (fun _ => ?_)
  refine z_aload_n (pc := 28) F dX8_differ_28 rfl 0 rfl ?_
  refine z_get (pc := 29) (v := .ref (r 13)) F iX8 0 rfl rfl 17 (by decide) tw_875 rfl dX8_differ_29 ?_
  refine z_iconst (pc := 32) (v := 3) F dX8_differ_32 (by decide) ?_
  refine z_iload_n (pc := 33) F dX8_differ_33 rfl 1 rfl ?_
  refine z_imul (pc := 34) F dX8_differ_34 ?_
  refine z_iload_n (pc := 35) F dX8_differ_35 rfl 2 rfl ?_
  refine z_iadd (pc := 36) F dX8_differ_36 ?_
  refine z_ialdN (pc := 37) (f := za S 13) F 13 0 rfl rfl (3 * k + 2) (ix3b (p := 2)) (by omega) (by decide) dX8_differ_37 ?_
  rw [show (za S 13 (3 * k + 2)) = bI x.2.2 from hd2]
  refine z_goto (pc := 38) (tgt := 42) F dX8_differ_38 (by decide) ?_
  exact z_iret (pc := 42) F hR dX8_differ_42 (Nat.le_of_ble_eq_true rfl) (Nat.le_of_ble_eq_true rfl) ⟨rfl, rfl⟩
set_option maxHeartbeats 4000000 in
set_option maxRecDepth 100000 in
theorem c_X8_differ_n (l : Launch) (E : zE) (r : Nat → Nat) (S : zS) (D : List (Nat × Nat × Bool)) (k : Int32) (w : Int32) (hd : zi S 4 = nI D.length) (hdR : dfR D (za S 13)) (hD : D.length ≤ 360) (hno : ¬ ((0 ≤ k ∧ k ≤ nI D.length - 1) ∧ 0 ≤ w ∧ w ≤ 2)) : Ct l yX8_differ cX8_differ 3 (some .int) ({ frames := 6, cells := 0, slots := 0, locals := 200 } : Room) E (mw E r S) [.ref (r 0), .int k, .int w] (fun v_ w_ => v_ = some (.int (-1)) ∧ w_ = mw E r (zI S 0 0)) := by
  refine Ct.of (by decide) (Nat.le_of_ble_eq_true rfl) (lv := [(0, .ref (r 0)), (1, .int k), (2, .int w)]) rfl ?_
  intro X F hR
  have F : zF X l ({ frames := 6, cells := 0, slots := 0, locals := 200 } : Room) E cX8_differ 3 "LiveQueriesModel" := F
  refine z_aload_n (pc := 0) F dX8_differ_0 rfl 0 rfl ?_
  refine z_iconst (pc := 1) (v := 0) F dX8_differ_1 (by decide) ?_
  refine z_put (pc := 2) (ws' := mw E r (zI S 0 0)) F iX8 tyX8 tyX8_ok nmX8 0 rfl rfl 0 (by decide) tw_858 rfl rfl rfl (Nat.le_of_ble_eq_true rfl) dX8_differ_2 rfl ?_
  refine z_iload_n (pc := 5) F dX8_differ_5 rfl 1 rfl ?_
  refine z_iconst (pc := 6) (v := 0) F dX8_differ_6 (by decide) ?_
  refine z_aload_n (pc := 7) F dX8_differ_7 rfl 0 rfl ?_
  refine z_get (pc := 8) (v := .int (zi S 4)) F iX8 0 rfl rfl 16 (by decide) tw_874 rfl dX8_differ_8 ?_
  rw [show (zi S 4) = nI D.length from hd]
  refine z_iconst (pc := 11) (v := 1) F dX8_differ_11 (by decide) ?_
  refine z_isub (pc := 12) F dX8_differ_12 ?_
  refine z_callS0 (pc := 13) (rest := []) F (c_X8_within l E k 0 ((nI D.length) - 1)) 3 ww_Model_97 (by decide +kernel) rfl ⟨Nat.le_of_ble_eq_true rfl, Nat.le_of_ble_eq_true rfl⟩ ⟨Nat.le_of_ble_eq_true rfl, Nat.le_of_ble_eq_true rfl⟩ rfl (Nat.le_of_ble_eq_true rfl) dX8_differ_13 (fun v_ w1_ hp => ?_)
  obtain ⟨rfl, rfl⟩ := hp
  show Z X (0) (0) (mw E r (zI S 0 0)) [(0, .ref (r 0)), (1, .int k), (2, .int w)] 16 [.int (bI (decide (0 ≤ k ∧ k ≤ ((nI D.length) - 1))))]
  refine z_if_eq (pc := 16) (tgt := 41) F dX8_differ_16 (by decide) (fun c16 => ?_) (fun c16 => ?_)
  · replace c16 := bI_f c16
    refine z_iconst (pc := 41) (v := (-1)) F dX8_differ_41 (by decide) ?_
    exact z_iret (pc := 42) F hR dX8_differ_42 (Nat.le_of_ble_eq_true rfl) (Nat.le_of_ble_eq_true rfl) ⟨rfl, rfl⟩
  · replace c16 := bI_t c16
    refine z_iload_n (pc := 19) F dX8_differ_19 rfl 2 rfl ?_
    refine z_iconst (pc := 20) (v := 0) F dX8_differ_20 (by decide) ?_
    refine z_iconst (pc := 21) (v := 2) F dX8_differ_21 (by decide) ?_
    refine z_callS0 (pc := 22) (rest := []) F (c_X8_within l E w 0 2) 3 ww_Model_97 (by decide +kernel) rfl ⟨Nat.le_of_ble_eq_true rfl, Nat.le_of_ble_eq_true rfl⟩ ⟨Nat.le_of_ble_eq_true rfl, Nat.le_of_ble_eq_true rfl⟩ rfl (Nat.le_of_ble_eq_true rfl) dX8_differ_22 (fun v_ w1_ hp => ?_)
    obtain ⟨rfl, rfl⟩ := hp
    show Z X (0) (0) (mw E r (zI S 0 0)) [(0, .ref (r 0)), (1, .int k), (2, .int w)] 25 [.int (bI (decide (0 ≤ w ∧ w ≤ 2)))]
    refine z_if_eq (pc := 25) (tgt := 41) F dX8_differ_25 (by decide) (fun c25 => ?_) (fun c25 => ?_)
    · replace c25 := bI_f c25
      refine z_iconst (pc := 41) (v := (-1)) F dX8_differ_41 (by decide) ?_
      exact z_iret (pc := 42) F hR dX8_differ_42 (Nat.le_of_ble_eq_true rfl) (Nat.le_of_ble_eq_true rfl) ⟨rfl, rfl⟩
    · replace c25 := bI_t c25
      exact absurd ⟨of_decide_eq_true c16, of_decide_eq_true c25⟩ hno
set_option maxHeartbeats 4000000 in
set_option maxRecDepth 100000 in
theorem c_X8_uses_ok (l : Launch) (E : zE) (r : Nat → Nat) (S : zS) (m : Nat) (nq : Nat) (q : Nat) (e : Nat → Nat) (o : Nat) (hm : m ≤ 60) (hmo : zi S 2 = nI m) (hnq : nq ≤ 6) (hn3 : zi S 3 = nI nq) (hq : q < nq) (hqo : qok S q e) (ho : objOk S) (hom : o < m) (hth : ¬ za S 2 o = 0) : Ct l yX8_uses cX8_uses 5 (some .int) ({ frames := 6, cells := 0, slots := 0, locals := 200 } : Room) E (mw E r S) [.ref (r 0), .int (nI q), .int (nI o)] (fun v_ w_ => ∃ hh : Int32, ∃ ab : Int32, ∃ f : Nat → Int64, ∃ hg : Nat → Int32, ∃ md : Nat → Int64, v_ = some (.int (nI (usN S q e o m))) ∧ w_ = mw E r (mwk (zI S 0 0) hh ab f hg md)) := by
  refine Ct.of (by decide) (Nat.le_of_ble_eq_true rfl) (lv := [(0, .ref (r 0)), (1, .int (nI q)), (2, .int (nI o))]) rfl ?_
  intro X F hR
  have F : zF X l ({ frames := 6, cells := 0, slots := 0, locals := 200 } : Room) E cX8_uses 5 "LiveQueriesModel" := F
  show Z X 0 0 (mw E r (mwk S (zi S 5) (zi S 6) (zb S 15) (za S 16) (zb S 17))) [(0, .ref (r 0)), (1, .int (nI q)), (2, .int (nI o))] 0 []
  refine z_aload_n (pc := 0) F dX8_uses_0 rfl 0 rfl ?_
  refine z_iconst (pc := 1) (v := 0) F dX8_uses_1 (by decide) ?_
  refine z_put (pc := 2) (ws' := mw E r (mwk (zI S 0 0) (zi S 5) (zi S 6) (zb S 15) (za S 16) (zb S 17))) F iX8 tyX8 tyX8_ok nmX8 0 rfl rfl 0 (by decide) tw_858 rfl rfl rfl (Nat.le_of_ble_eq_true rfl) dX8_uses_2 rfl ?_
  refine z_aload_n (pc := 5) F dX8_uses_5 rfl 0 rfl ?_
  refine z_iload_n (pc := 6) F dX8_uses_6 rfl 1 rfl ?_
  refine z_callVW (pc := 7) (q0 := 0) (ci := 8) (rest := []) F (c_X8_isQuery l E r (mwk (zI S 0 0) (zi S 5) (zi S 6) (zb S 15) (za S 16) (zb S 17)) nq (nI q) hn3) 1 ww_Model_235 (by decide +kernel) rfl ⟨Nat.le_of_ble_eq_true rfl, Nat.le_of_ble_eq_true rfl⟩ ⟨Nat.le_of_ble_eq_true rfl, Nat.le_of_ble_eq_true rfl⟩ rfl rfl rfl rfl (Nat.le_of_ble_eq_true rfl) dX8_uses_7 (fun v_ w1_ hp => ?_)
  obtain ⟨rfl, rfl⟩ := hp
  show Z X (0) (0) (mw E r (mwk (zI S 0 0) (zi S 5) (zi S 6) (zb S 15) (za S 16) (zb S 17))) [(0, .ref (r 0)), (1, .int (nI q)), (2, .int (nI o))] 10 [.int (bI (decide (0 ≤ (nI q) ∧ (nI q) ≤ nI nq - 1)))]
  rw [show (bI (decide (0 ≤ (nI q) ∧ (nI q) ≤ nI nq - 1))) = 1 from (wi1 (wiN hq (by omega)))]
  refine z_if_eq (pc := 10) (tgt := 21) F dX8_uses_10 (by decide) (fun h => absurd h (by decide)) (fun _ => ?_)
  refine z_aload_n (pc := 13) F dX8_uses_13 rfl 0 rfl ?_
  refine z_iload_n (pc := 14) F dX8_uses_14 rfl 2 rfl ?_
  refine z_callVW (pc := 15) (q0 := 0) (ci := 8) (rest := []) F (c_X8_isThere l E r (mwk (zI S 0 0) (zi S 5) (zi S 6) (zb S 15) (za S 16) (zb S 17)) m (nI o) hm hmo) 1 ww_Model_168 (by decide +kernel) rfl ⟨Nat.le_of_ble_eq_true rfl, Nat.le_of_ble_eq_true rfl⟩ ⟨Nat.le_of_ble_eq_true rfl, Nat.le_of_ble_eq_true rfl⟩ rfl rfl rfl rfl (Nat.le_of_ble_eq_true rfl) dX8_uses_15 (fun v_ w1_ hp => ?_)
  obtain ⟨rfl, rfl⟩ := hp
  show Z X (0) (0) (mw E r (mwk (zI S 0 0) (zi S 5) (zi S 6) (zb S 15) (za S 16) (zb S 17))) [(0, .ref (r 0)), (1, .int (nI q)), (2, .int (nI o))] 18 [.int (bI (thB m (za (mwk (zI S 0 0) (zi S 5) (zi S 6) (zb S 15) (za S 16) (zb S 17)) 2) (nI o)))]
  rw [show (bI (thB m (za (mwk (zI S 0 0) (zi S 5) (zi S 6) (zb S 15) (za S 16) (zb S 17)) 2) (nI o))) = 1 from (thB_1 (by omega) hom hth)]
  refine z_if_ne (pc := 18) (tgt := 23) F dX8_uses_18 (by decide) (fun _ => ?_) (fun h => absurd h (by decide))
  refine z_iconst (pc := 23) (v := 0) F dX8_uses_23 (by decide) ?_
  refine z_istore_n (pc := 24) (lv' := [(0, .ref (r 0)), (1, .int (nI q)), (2, .int (nI o)), (3, .int 0)]) F dX8_uses_24 rfl (by decide) [1, 2, 3, 0] rfl ?_
  refine z_iconst (pc := 25) (v := 0) F dX8_uses_25 (by decide) ?_
  refine z_istore (pc := 26) (lv' := [(0, .ref (r 0)), (1, .int (nI q)), (2, .int (nI o)), (3, .int 0), (4, .int 0)]) F dX8_uses_26 (by decide) [1, 2, 3, 4, 0] rfl ?_
  have L28 : ∀ (N : Nat) (k : Nat) (hh : Int32) (ab : Int32) (f : Nat → Int64) (hg : Nat → Int32) (md : Nat → Int64), (m - k) < N → (k ≤ m) → Z X (0) (0) (mw E r (mwk (zI S 0 0) hh ab f hg md)) [(0, .ref (r 0)), (1, .int (nI q)), (2, .int (nI o)), (3, .int (nI (usN S q e o k))), (4, .int (nI k))] 28 [] := by
    intro N
    induction N with
    | zero => intro k hh ab f hg md hN; exact absurd hN (Nat.not_lt_zero _)
    | succ N ih28 =>
      intro k hh ab f hg md hN hkm
      refine z_iload (pc := 28) F dX8_uses_28 4 rfl ?_
      refine z_aload_n (pc := 30) F dX8_uses_30 rfl 0 rfl ?_
      refine z_get (pc := 31) (v := .int (zi S 2)) F iX8 0 rfl rfl 3 (by decide) tw_861 rfl dX8_uses_31 ?_
      rw [show (zi S 2) = nI m from hmo]
      refine z_icmp_ge (pc := 34) (tgt := 106) F dX8_uses_34 (by decide) (fun c34 => ?_) (fun c34 => ?_)
      · have hke : k = m := Nat.le_antisymm hkm (gI (by omega) (by omega) c34)
        subst hke
        refine z_iload_n (pc := 106) F dX8_uses_106 rfl 3 rfl ?_
        exact z_iret (pc := 107) F hR dX8_uses_107 (Nat.le_of_ble_eq_true rfl) (Nat.le_of_ble_eq_true rfl) ⟨hh, ab, f, hg, md, rfl, rfl⟩
      · have hklt := ngI (by omega) (by omega) c34
        refine z_aload_n (pc := 37) F dX8_uses_37 rfl 0 rfl ?_
        refine z_get (pc := 38) (v := .ref (r 2)) F iX8 0 rfl rfl 4 (by decide) tw_862 rfl dX8_uses_38 ?_
        refine z_iload (pc := 41) F dX8_uses_41 4 rfl ?_
        refine z_zaldN (pc := 43) (f := za S 2) F 2 2 rfl rfl k rfl (by omega) (by decide) dX8_uses_43 ?_
        refine z_if_eq (pc := 44) (tgt := 100) F dX8_uses_44 (by decide) (fun c44 => ?_) (fun c44 => ?_)
        · refine z_iinc (pc := 100) (v := nI (k + 1)) (lv' := [(0, .ref (r 0)), (1, .int (nI q)), (2, .int (nI o)), (3, .int (nI (usN S q e o k))), (4, .int (nI (k + 1)))]) F (j := 4) dX8_uses_100 rfl (nI_1 _) (by decide) [1, 2, 3, 4, 0] rfl ?_
          refine z_goto (pc := 103) (tgt := 28) F dX8_uses_103 (by decide) ?_
          have e1 := us_n (S := S) (q := q) (o := o) (k := k) (e := e) (by first | (simp [usB, c44]; done) | (simp [usB, c60]; done)); rw [← e1]; exact ih28 (k + 1) hh ab f hg md (by omega) (by omega)
        · refine z_aload_n (pc := 47) F dX8_uses_47 rfl 0 rfl ?_
          refine z_get (pc := 48) (v := .ref (r 3)) F iX8 0 rfl rfl 5 (by decide) tw_863 rfl dX8_uses_48 ?_
          refine z_iload (pc := 51) F dX8_uses_51 4 rfl ?_
          refine z_ialdN (pc := 53) (f := za S 3) F 3 0 rfl rfl k rfl (by omega) (by decide) dX8_uses_53 ?_
          refine z_aload_n (pc := 54) F dX8_uses_54 rfl 0 rfl ?_
          refine z_get (pc := 55) (v := .ref (r 8)) F iX8 0 rfl rfl 11 (by decide) tw_869 rfl dX8_uses_55 ?_
          refine z_iload_n (pc := 58) F dX8_uses_58 rfl 1 rfl ?_
          refine z_ialdN (pc := 59) (f := za S 8) F 8 0 rfl rfl q rfl (by omega) (by decide) dX8_uses_59 ?_
          refine z_icmp_eq (pc := 60) (tgt := 66) F dX8_uses_60 (by decide) (fun c60 => ?_) (fun c60 => ?_)
          · refine z_aload_n (pc := 66) F dX8_uses_66 rfl 0 rfl ?_
            refine z_iload_n (pc := 67) F dX8_uses_67 rfl 1 rfl ?_
            refine z_iload (pc := 68) F dX8_uses_68 4 rfl ?_
            refine z_callVW (pc := 70) (q0 := 0) (ci := 8) (rest := []) F (c_X8_work2 l E r (mwk (zI S 0 0) hh ab f hg md) q k e (by omega) (by omega) (qok_of (S := S) (S' := (mwk (zI S 0 0) hh ab f hg md)) rfl rfl hqo) ho) 2 ww_Model_133 (by decide +kernel) rfl ⟨Nat.le_of_ble_eq_true rfl, Nat.le_of_ble_eq_true rfl⟩ ⟨Nat.le_of_ble_eq_true rfl, Nat.le_of_ble_eq_true rfl⟩ rfl rfl rfl rfl (Nat.le_of_ble_eq_true rfl) dX8_uses_70 (fun v_ w1_ hp => ?_)
            obtain ⟨hh1, ab1, f1, hg1, md1, rfl, rfl, h70_0, h70_1⟩ := hp
            show Z X (0) (0) (mw E r (mwk (zI S 0 0) hh1 ab1 f1 hg1 md1)) [(0, .ref (r 0)), (1, .int (nI q)), (2, .int (nI o)), (3, .int (nI (usN S q e o k))), (4, .int (nI k))] 73 [.int (bI (wIn (zI S 0 0) k e))]
            have hhg : ∀ o : Nat, o < 60 → hg1 o = (wC S k e 4).2.2 o := h70_1
            refine z_if_eq (pc := 73) (tgt := 83) F dX8_uses_73 (by decide) (fun c73 => ?_) (fun c73 => ?_)
            · replace c73 := bI_f c73
              refine z_iload_n (pc := 83) F dX8_uses_83 rfl 3 rfl ?_
              refine z_aload_n (pc := 84) F dX8_uses_84 rfl 0 rfl ?_
              refine z_get (pc := 85) (v := .ref (r 16)) F iX8 0 rfl rfl 22 (by decide) tw_880 rfl dX8_uses_85 ?_
              refine z_iload_n (pc := 88) F dX8_uses_88 rfl 2 rfl ?_
              refine z_zaldN (pc := 89) (f := hg1) F 16 2 rfl rfl o rfl (by omega) (by decide) dX8_uses_89 ?_
              rw [show ((hg1) o) = (wC S k e 4).2.2 o from (hhg o (by omega))]
              refine z_if_eq (pc := 90) (tgt := 97) F dX8_uses_90 (by decide) (fun c90 => ?_) (fun c90 => ?_)
              · refine z_iconst (pc := 97) (v := 0) F dX8_uses_97 (by decide) ?_
                refine z_iadd (pc := 98) F dX8_uses_98 ?_
                rw [show ((nI (usN S q e o k)) + 0) = nI (usN S q e o (k + 1)) from (us_n0 (by simp [usB, c90]))]
                refine z_istore_n (pc := 99) (lv' := [(0, .ref (r 0)), (1, .int (nI q)), (2, .int (nI o)), (3, .int (nI (usN S q e o (k + 1)))), (4, .int (nI k))]) F dX8_uses_99 rfl (by decide) [1, 2, 3, 0, 4] rfl ?_
                refine z_iinc (pc := 100) (v := nI (k + 1)) (lv' := [(0, .ref (r 0)), (1, .int (nI q)), (2, .int (nI o)), (3, .int (nI (usN S q e o (k + 1)))), (4, .int (nI (k + 1)))]) F (j := 4) dX8_uses_100 rfl (nI_1 _) (by decide) [1, 2, 3, 4, 0] rfl ?_
                refine z_goto (pc := 103) (tgt := 28) F dX8_uses_103 (by decide) ?_
                exact ih28 (k + 1) hh1 ab1 f1 hg1 md1 (by omega) (by omega)
              · refine z_iconst (pc := 93) (v := 1) F dX8_uses_93 (by decide) ?_
                refine z_goto (pc := 94) (tgt := 98) F dX8_uses_94 (by decide) ?_
                refine z_iadd (pc := 98) F dX8_uses_98 ?_
                rw [show ((nI (usN S q e o k)) + 1) = nI (usN S q e o (k + 1)) from (us_y (by simp [usB, c44, c60, c90]))]
                refine z_istore_n (pc := 99) (lv' := [(0, .ref (r 0)), (1, .int (nI q)), (2, .int (nI o)), (3, .int (nI (usN S q e o (k + 1)))), (4, .int (nI k))]) F dX8_uses_99 rfl (by decide) [1, 2, 3, 0, 4] rfl ?_
                refine z_iinc (pc := 100) (v := nI (k + 1)) (lv' := [(0, .ref (r 0)), (1, .int (nI q)), (2, .int (nI o)), (3, .int (nI (usN S q e o (k + 1)))), (4, .int (nI (k + 1)))]) F (j := 4) dX8_uses_100 rfl (nI_1 _) (by decide) [1, 2, 3, 4, 0] rfl ?_
                refine z_goto (pc := 103) (tgt := 28) F dX8_uses_103 (by decide) ?_
                exact ih28 (k + 1) hh1 ab1 f1 hg1 md1 (by omega) (by omega)
            · replace c73 := bI_t c73
              refine z_aload_n (pc := 76) F dX8_uses_76 rfl 0 rfl ?_
              refine z_get (pc := 77) (v := .ref (r 17)) F iX8 0 rfl rfl 23 (by decide) tw_881 rfl dX8_uses_77 ?_
              refine z_iconst (pc := 80) (v := 0) F dX8_uses_80 (by decide) ?_
              refine z_lconst (pc := 81) (v := 1) F dX8_uses_81 (by decide) ?_
              refine z_lastN (pc := 82) (ws' := mw E r (mwk (zI S 0 0) hh1 ab1 f1 hg1 (vp_updL md1 0 1))) (f := md1) F 17 1 rfl rfl 0 (by decide) (by omega) (by decide) dX8_uses_82 rfl ?_
              refine z_iload_n (pc := 83) F dX8_uses_83 rfl 3 rfl ?_
              refine z_aload_n (pc := 84) F dX8_uses_84 rfl 0 rfl ?_
              refine z_get (pc := 85) (v := .ref (r 16)) F iX8 0 rfl rfl 22 (by decide) tw_880 rfl dX8_uses_85 ?_
              refine z_iload_n (pc := 88) F dX8_uses_88 rfl 2 rfl ?_
              refine z_zaldN (pc := 89) (f := hg1) F 16 2 rfl rfl o rfl (by omega) (by decide) dX8_uses_89 ?_
              rw [show ((hg1) o) = (wC S k e 4).2.2 o from (hhg o (by omega))]
              refine z_if_eq (pc := 90) (tgt := 97) F dX8_uses_90 (by decide) (fun c90 => ?_) (fun c90 => ?_)
              · refine z_iconst (pc := 97) (v := 0) F dX8_uses_97 (by decide) ?_
                refine z_iadd (pc := 98) F dX8_uses_98 ?_
                rw [show ((nI (usN S q e o k)) + 0) = nI (usN S q e o (k + 1)) from (us_n0 (by simp [usB, c90]))]
                refine z_istore_n (pc := 99) (lv' := [(0, .ref (r 0)), (1, .int (nI q)), (2, .int (nI o)), (3, .int (nI (usN S q e o (k + 1)))), (4, .int (nI k))]) F dX8_uses_99 rfl (by decide) [1, 2, 3, 0, 4] rfl ?_
                refine z_iinc (pc := 100) (v := nI (k + 1)) (lv' := [(0, .ref (r 0)), (1, .int (nI q)), (2, .int (nI o)), (3, .int (nI (usN S q e o (k + 1)))), (4, .int (nI (k + 1)))]) F (j := 4) dX8_uses_100 rfl (nI_1 _) (by decide) [1, 2, 3, 4, 0] rfl ?_
                refine z_goto (pc := 103) (tgt := 28) F dX8_uses_103 (by decide) ?_
                exact ih28 (k + 1) hh1 ab1 f1 hg1 (vp_updL md1 0 1) (by omega) (by omega)
              · refine z_iconst (pc := 93) (v := 1) F dX8_uses_93 (by decide) ?_
                refine z_goto (pc := 94) (tgt := 98) F dX8_uses_94 (by decide) ?_
                refine z_iadd (pc := 98) F dX8_uses_98 ?_
                rw [show ((nI (usN S q e o k)) + 1) = nI (usN S q e o (k + 1)) from (us_y (by simp [usB, c44, c60, c90]))]
                refine z_istore_n (pc := 99) (lv' := [(0, .ref (r 0)), (1, .int (nI q)), (2, .int (nI o)), (3, .int (nI (usN S q e o (k + 1)))), (4, .int (nI k))]) F dX8_uses_99 rfl (by decide) [1, 2, 3, 0, 4] rfl ?_
                refine z_iinc (pc := 100) (v := nI (k + 1)) (lv' := [(0, .ref (r 0)), (1, .int (nI q)), (2, .int (nI o)), (3, .int (nI (usN S q e o (k + 1)))), (4, .int (nI (k + 1)))]) F (j := 4) dX8_uses_100 rfl (nI_1 _) (by decide) [1, 2, 3, 4, 0] rfl ?_
                refine z_goto (pc := 103) (tgt := 28) F dX8_uses_103 (by decide) ?_
                exact ih28 (k + 1) hh1 ab1 f1 hg1 (vp_updL md1 0 1) (by omega) (by omega)
          · refine z_goto (pc := 63) (tgt := 100) F dX8_uses_63 (by decide) ?_
            refine z_iinc (pc := 100) (v := nI (k + 1)) (lv' := [(0, .ref (r 0)), (1, .int (nI q)), (2, .int (nI o)), (3, .int (nI (usN S q e o k))), (4, .int (nI (k + 1)))]) F (j := 4) dX8_uses_100 rfl (nI_1 _) (by decide) [1, 2, 3, 4, 0] rfl ?_
            refine z_goto (pc := 103) (tgt := 28) F dX8_uses_103 (by decide) ?_
            have e1 := us_n (S := S) (q := q) (o := o) (k := k) (e := e) (by first | (simp [usB, c44]; done) | (simp [usB, c60]; done)); rw [← e1]; exact ih28 (k + 1) hh ab f hg md (by omega) (by omega)
  exact L28 _ 0 (zi S 5) (zi S 6) (zb S 15) (za S 16) (zb S 17) (Nat.lt_succ_self _) (Nat.zero_le _)
set_option maxHeartbeats 4000000 in
set_option maxRecDepth 100000 in
theorem c_X8_uses_n (l : Launch) (E : zE) (r : Nat → Nat) (S : zS) (m : Nat) (nq : Nat) (q : Nat) (e : Nat → Nat) (o : Int32) (hm : m ≤ 60) (hmo : zi S 2 = nI m) (hnq : nq ≤ 6) (hn3 : zi S 3 = nI nq) (hq : q < nq) (hqo : qok S q e) (ho : objOk S) (hno : ¬ thB m (za S 2) o = true) : Ct l yX8_uses cX8_uses 5 (some .int) ({ frames := 6, cells := 0, slots := 0, locals := 200 } : Room) E (mw E r S) [.ref (r 0), .int (nI q), .int o] (fun v_ w_ => v_ = some (.int (-1)) ∧ w_ = mw E r (zI S 0 0)) := by
  refine Ct.of (by decide) (Nat.le_of_ble_eq_true rfl) (lv := [(0, .ref (r 0)), (1, .int (nI q)), (2, .int o)]) rfl ?_
  intro X F hR
  have F : zF X l ({ frames := 6, cells := 0, slots := 0, locals := 200 } : Room) E cX8_uses 5 "LiveQueriesModel" := F
  refine z_aload_n (pc := 0) F dX8_uses_0 rfl 0 rfl ?_
  refine z_iconst (pc := 1) (v := 0) F dX8_uses_1 (by decide) ?_
  refine z_put (pc := 2) (ws' := mw E r (zI S 0 0)) F iX8 tyX8 tyX8_ok nmX8 0 rfl rfl 0 (by decide) tw_858 rfl rfl rfl (Nat.le_of_ble_eq_true rfl) dX8_uses_2 rfl ?_
  refine z_aload_n (pc := 5) F dX8_uses_5 rfl 0 rfl ?_
  refine z_iload_n (pc := 6) F dX8_uses_6 rfl 1 rfl ?_
  refine z_callVW (pc := 7) (q0 := 0) (ci := 8) (rest := []) F (c_X8_isQuery l E r (zI S 0 0) nq (nI q) hn3) 1 ww_Model_235 (by decide +kernel) rfl ⟨Nat.le_of_ble_eq_true rfl, Nat.le_of_ble_eq_true rfl⟩ ⟨Nat.le_of_ble_eq_true rfl, Nat.le_of_ble_eq_true rfl⟩ rfl rfl rfl rfl (Nat.le_of_ble_eq_true rfl) dX8_uses_7 (fun v_ w1_ hp => ?_)
  obtain ⟨rfl, rfl⟩ := hp
  show Z X (0) (0) (mw E r (zI S 0 0)) [(0, .ref (r 0)), (1, .int (nI q)), (2, .int o)] 10 [.int (bI (decide (0 ≤ (nI q) ∧ (nI q) ≤ nI nq - 1)))]
  rw [show (bI (decide (0 ≤ (nI q) ∧ (nI q) ≤ nI nq - 1))) = 1 from (wi1 (wiN hq (by omega)))]
  refine z_if_eq (pc := 10) (tgt := 21) F dX8_uses_10 (by decide) (fun h => absurd h (by decide)) (fun _ => ?_)
  refine z_aload_n (pc := 13) F dX8_uses_13 rfl 0 rfl ?_
  refine z_iload_n (pc := 14) F dX8_uses_14 rfl 2 rfl ?_
  refine z_callVW (pc := 15) (q0 := 0) (ci := 8) (rest := []) F (c_X8_isThere l E r (zI S 0 0) m o hm hmo) 1 ww_Model_168 (by decide +kernel) rfl ⟨Nat.le_of_ble_eq_true rfl, Nat.le_of_ble_eq_true rfl⟩ ⟨Nat.le_of_ble_eq_true rfl, Nat.le_of_ble_eq_true rfl⟩ rfl rfl rfl rfl (Nat.le_of_ble_eq_true rfl) dX8_uses_15 (fun v_ w1_ hp => ?_)
  obtain ⟨rfl, rfl⟩ := hp
  show Z X (0) (0) (mw E r (zI S 0 0)) [(0, .ref (r 0)), (1, .int (nI q)), (2, .int o)] 18 [.int (bI (thB m (za (zI S 0 0) 2) o))]
  refine z_if_ne (pc := 18) (tgt := 23) F dX8_uses_18 (by decide) (fun c18 => ?_) (fun c18 => ?_)
  · replace c18 := bI_t c18
    exact absurd c18 hno
  · replace c18 := bI_f c18
    refine z_iconst (pc := 21) (v := (-1)) F dX8_uses_21 (by decide) ?_
    exact z_iret (pc := 22) F hR dX8_uses_22 (Nat.le_of_ble_eq_true rfl) (Nat.le_of_ble_eq_true rfl) ⟨rfl, rfl⟩
set_option maxHeartbeats 4000000 in
set_option maxRecDepth 100000 in
theorem c_X8_look_0 (l : Launch) (E : zE) (r : Nat → Nat) (S : zS) (m : Nat) (o : Nat) (hm : m ≤ 60) (hmo : zi S 2 = nI m) (hom : o < m) (hth : ¬ za S 2 o = 0) : Ct l yX8_look cX8_look 3 (some .long) ({ frames := 6, cells := 0, slots := 0, locals := 200 } : Room) E (mw E r S) [.ref (r 0), .int (nI o), .int (nI 0)] (fun v_ w_ => v_ = some (.long (zb S 4 (3 * o + 0))) ∧ w_ = mw E r (zI S 0 0)) := by
  refine Ct.of (by decide) (Nat.le_of_ble_eq_true rfl) (lv := [(0, .ref (r 0)), (1, .int (nI o)), (2, .int (nI 0))]) rfl ?_
  intro X F hR
  have F : zF X l ({ frames := 6, cells := 0, slots := 0, locals := 200 } : Room) E cX8_look 3 "LiveQueriesModel" := F
  refine z_aload_n (pc := 0) F dX8_look_0 rfl 0 rfl ?_
  refine z_aload_n (pc := 1) F dX8_look_1 rfl 0 rfl ?_
  refine z_iload_n (pc := 2) F dX8_look_2 rfl 1 rfl ?_
  refine z_callVW (pc := 3) (q0 := 0) (ci := 8) (rest := [.ref (r 0)]) F (c_X8_isThere l E r S m (nI o) hm hmo) 1 ww_Model_168 (by decide +kernel) rfl ⟨Nat.le_of_ble_eq_true rfl, Nat.le_of_ble_eq_true rfl⟩ ⟨Nat.le_of_ble_eq_true rfl, Nat.le_of_ble_eq_true rfl⟩ rfl rfl rfl rfl (Nat.le_of_ble_eq_true rfl) dX8_look_3 (fun v_ w1_ hp => ?_)
  obtain ⟨rfl, rfl⟩ := hp
  show Z X (0) (0) (mw E r S) [(0, .ref (r 0)), (1, .int (nI o)), (2, .int (nI 0))] 6 [.int (bI (thB m (za S 2) (nI o))), .ref (r 0)]
  rw [show (bI (thB m (za S 2) (nI o))) = 1 from (thB_1 (by omega) hom hth)]
  refine z_if_eq (pc := 6) (tgt := 40) F dX8_look_6 (by decide) (fun h => absurd h (by decide)) (fun _ => ?_)
  refine z_iload_n (pc := 9) F dX8_look_9 rfl 2 rfl ?_
  refine z_iconst (pc := 10) (v := 0) F dX8_look_10 (by decide) ?_
  refine z_iconst (pc := 11) (v := 5) F dX8_look_11 (by decide) ?_
  refine z_callS0 (pc := 12) (rest := [.ref (r 0)]) F (c_X8_within l E (nI 0) 0 5) 3 ww_Model_97 (by decide +kernel) rfl ⟨Nat.le_of_ble_eq_true rfl, Nat.le_of_ble_eq_true rfl⟩ ⟨Nat.le_of_ble_eq_true rfl, Nat.le_of_ble_eq_true rfl⟩ rfl (Nat.le_of_ble_eq_true rfl) dX8_look_12 (fun v_ w1_ hp => ?_)
  obtain ⟨rfl, rfl⟩ := hp
  show Z X (0) (0) (mw E r S) [(0, .ref (r 0)), (1, .int (nI o)), (2, .int (nI 0))] 15 [.int (bI (decide (0 ≤ (nI 0) ∧ (nI 0) ≤ 5))), .ref (r 0)]
  rw [show (bI (decide (0 ≤ (nI 0) ∧ (nI 0) ≤ 5))) = 1 from (by decide)]
  refine z_if_ne (pc := 15) (tgt := 36) F dX8_look_15 (by decide) (fun _ => ?_) (fun h => absurd h (by decide))
  refine z_iconst (pc := 36) (v := 0) F dX8_look_36 (by decide) ?_
  refine z_goto (pc := 37) (tgt := 41) F dX8_look_37 (by decide) ?_
  refine z_put (pc := 41) (ws' := mw E r (zI S 0 0)) F iX8 tyX8 tyX8_ok nmX8 0 rfl rfl 0 (by decide) tw_858 rfl rfl rfl (Nat.le_of_ble_eq_true rfl) dX8_look_41 rfl ?_
  refine z_aload_n (pc := 44) F dX8_look_44 rfl 0 rfl ?_
  refine z_get (pc := 45) (v := .int 0) F iX8 0 rfl rfl 0 (by decide) tw_858 rfl dX8_look_45 ?_
  refine z_if_eq (pc := 48) (tgt := 53) F dX8_look_48 (by decide) (fun _ => ?_) (fun h => absurd h (by decide))
  refine z_iload_n (pc := 53) F dX8_look_53 rfl 2 rfl ?_
  refine z_iconst (pc := 54) (v := 3) F dX8_look_54 (by decide) ?_
  refine z_icmp_ge (pc := 55) (tgt := 69) F dX8_look_55 (by decide) (fun h => absurd h (by decide)) (fun _ => ?_)
  refine z_aload_n (pc := 58) F dX8_look_58 rfl 0 rfl ?_
  refine z_get (pc := 59) (v := .ref (r 4)) F iX8 0 rfl rfl 6 (by decide) tw_864 rfl dX8_look_59 ?_
  refine z_iconst (pc := 62) (v := 3) F dX8_look_62 (by decide) ?_
  refine z_iload_n (pc := 63) F dX8_look_63 rfl 1 rfl ?_
  refine z_imul (pc := 64) F dX8_look_64 ?_
  refine z_iload_n (pc := 65) F dX8_look_65 rfl 2 rfl ?_
  refine z_iadd (pc := 66) F dX8_look_66 ?_
  refine z_laldN (pc := 67) (f := zb S 4) F 4 1 rfl rfl (3 * o + 0) (ix3b (p := 0)) (by omega) (by decide) dX8_look_67 ?_
  exact z_lret (pc := 68) F hR dX8_look_68 (Nat.le_of_ble_eq_true rfl) (Nat.le_of_ble_eq_true rfl) ⟨rfl, rfl⟩
set_option maxHeartbeats 4000000 in
set_option maxRecDepth 100000 in
theorem c_X8_look_1 (l : Launch) (E : zE) (r : Nat → Nat) (S : zS) (m : Nat) (o : Nat) (hm : m ≤ 60) (hmo : zi S 2 = nI m) (hom : o < m) (hth : ¬ za S 2 o = 0) : Ct l yX8_look cX8_look 3 (some .long) ({ frames := 6, cells := 0, slots := 0, locals := 200 } : Room) E (mw E r S) [.ref (r 0), .int (nI o), .int (nI 1)] (fun v_ w_ => v_ = some (.long (zb S 4 (3 * o + 1))) ∧ w_ = mw E r (zI S 0 0)) := by
  refine Ct.of (by decide) (Nat.le_of_ble_eq_true rfl) (lv := [(0, .ref (r 0)), (1, .int (nI o)), (2, .int (nI 1))]) rfl ?_
  intro X F hR
  have F : zF X l ({ frames := 6, cells := 0, slots := 0, locals := 200 } : Room) E cX8_look 3 "LiveQueriesModel" := F
  refine z_aload_n (pc := 0) F dX8_look_0 rfl 0 rfl ?_
  refine z_aload_n (pc := 1) F dX8_look_1 rfl 0 rfl ?_
  refine z_iload_n (pc := 2) F dX8_look_2 rfl 1 rfl ?_
  refine z_callVW (pc := 3) (q0 := 0) (ci := 8) (rest := [.ref (r 0)]) F (c_X8_isThere l E r S m (nI o) hm hmo) 1 ww_Model_168 (by decide +kernel) rfl ⟨Nat.le_of_ble_eq_true rfl, Nat.le_of_ble_eq_true rfl⟩ ⟨Nat.le_of_ble_eq_true rfl, Nat.le_of_ble_eq_true rfl⟩ rfl rfl rfl rfl (Nat.le_of_ble_eq_true rfl) dX8_look_3 (fun v_ w1_ hp => ?_)
  obtain ⟨rfl, rfl⟩ := hp
  show Z X (0) (0) (mw E r S) [(0, .ref (r 0)), (1, .int (nI o)), (2, .int (nI 1))] 6 [.int (bI (thB m (za S 2) (nI o))), .ref (r 0)]
  rw [show (bI (thB m (za S 2) (nI o))) = 1 from (thB_1 (by omega) hom hth)]
  refine z_if_eq (pc := 6) (tgt := 40) F dX8_look_6 (by decide) (fun h => absurd h (by decide)) (fun _ => ?_)
  refine z_iload_n (pc := 9) F dX8_look_9 rfl 2 rfl ?_
  refine z_iconst (pc := 10) (v := 0) F dX8_look_10 (by decide) ?_
  refine z_iconst (pc := 11) (v := 5) F dX8_look_11 (by decide) ?_
  refine z_callS0 (pc := 12) (rest := [.ref (r 0)]) F (c_X8_within l E (nI 1) 0 5) 3 ww_Model_97 (by decide +kernel) rfl ⟨Nat.le_of_ble_eq_true rfl, Nat.le_of_ble_eq_true rfl⟩ ⟨Nat.le_of_ble_eq_true rfl, Nat.le_of_ble_eq_true rfl⟩ rfl (Nat.le_of_ble_eq_true rfl) dX8_look_12 (fun v_ w1_ hp => ?_)
  obtain ⟨rfl, rfl⟩ := hp
  show Z X (0) (0) (mw E r S) [(0, .ref (r 0)), (1, .int (nI o)), (2, .int (nI 1))] 15 [.int (bI (decide (0 ≤ (nI 1) ∧ (nI 1) ≤ 5))), .ref (r 0)]
  rw [show (bI (decide (0 ≤ (nI 1) ∧ (nI 1) ≤ 5))) = 1 from (by decide)]
  refine z_if_ne (pc := 15) (tgt := 36) F dX8_look_15 (by decide) (fun _ => ?_) (fun h => absurd h (by decide))
  refine z_iconst (pc := 36) (v := 0) F dX8_look_36 (by decide) ?_
  refine z_goto (pc := 37) (tgt := 41) F dX8_look_37 (by decide) ?_
  refine z_put (pc := 41) (ws' := mw E r (zI S 0 0)) F iX8 tyX8 tyX8_ok nmX8 0 rfl rfl 0 (by decide) tw_858 rfl rfl rfl (Nat.le_of_ble_eq_true rfl) dX8_look_41 rfl ?_
  refine z_aload_n (pc := 44) F dX8_look_44 rfl 0 rfl ?_
  refine z_get (pc := 45) (v := .int 0) F iX8 0 rfl rfl 0 (by decide) tw_858 rfl dX8_look_45 ?_
  refine z_if_eq (pc := 48) (tgt := 53) F dX8_look_48 (by decide) (fun _ => ?_) (fun h => absurd h (by decide))
  refine z_iload_n (pc := 53) F dX8_look_53 rfl 2 rfl ?_
  refine z_iconst (pc := 54) (v := 3) F dX8_look_54 (by decide) ?_
  refine z_icmp_ge (pc := 55) (tgt := 69) F dX8_look_55 (by decide) (fun h => absurd h (by decide)) (fun _ => ?_)
  refine z_aload_n (pc := 58) F dX8_look_58 rfl 0 rfl ?_
  refine z_get (pc := 59) (v := .ref (r 4)) F iX8 0 rfl rfl 6 (by decide) tw_864 rfl dX8_look_59 ?_
  refine z_iconst (pc := 62) (v := 3) F dX8_look_62 (by decide) ?_
  refine z_iload_n (pc := 63) F dX8_look_63 rfl 1 rfl ?_
  refine z_imul (pc := 64) F dX8_look_64 ?_
  refine z_iload_n (pc := 65) F dX8_look_65 rfl 2 rfl ?_
  refine z_iadd (pc := 66) F dX8_look_66 ?_
  refine z_laldN (pc := 67) (f := zb S 4) F 4 1 rfl rfl (3 * o + 1) (ix3b (p := 1)) (by omega) (by decide) dX8_look_67 ?_
  exact z_lret (pc := 68) F hR dX8_look_68 (Nat.le_of_ble_eq_true rfl) (Nat.le_of_ble_eq_true rfl) ⟨rfl, rfl⟩
set_option maxHeartbeats 4000000 in
set_option maxRecDepth 100000 in
theorem c_X8_look_2 (l : Launch) (E : zE) (r : Nat → Nat) (S : zS) (m : Nat) (o : Nat) (hm : m ≤ 60) (hmo : zi S 2 = nI m) (hom : o < m) (hth : ¬ za S 2 o = 0) : Ct l yX8_look cX8_look 3 (some .long) ({ frames := 6, cells := 0, slots := 0, locals := 200 } : Room) E (mw E r S) [.ref (r 0), .int (nI o), .int (nI 2)] (fun v_ w_ => v_ = some (.long (zb S 4 (3 * o + 2))) ∧ w_ = mw E r (zI S 0 0)) := by
  refine Ct.of (by decide) (Nat.le_of_ble_eq_true rfl) (lv := [(0, .ref (r 0)), (1, .int (nI o)), (2, .int (nI 2))]) rfl ?_
  intro X F hR
  have F : zF X l ({ frames := 6, cells := 0, slots := 0, locals := 200 } : Room) E cX8_look 3 "LiveQueriesModel" := F
  refine z_aload_n (pc := 0) F dX8_look_0 rfl 0 rfl ?_
  refine z_aload_n (pc := 1) F dX8_look_1 rfl 0 rfl ?_
  refine z_iload_n (pc := 2) F dX8_look_2 rfl 1 rfl ?_
  refine z_callVW (pc := 3) (q0 := 0) (ci := 8) (rest := [.ref (r 0)]) F (c_X8_isThere l E r S m (nI o) hm hmo) 1 ww_Model_168 (by decide +kernel) rfl ⟨Nat.le_of_ble_eq_true rfl, Nat.le_of_ble_eq_true rfl⟩ ⟨Nat.le_of_ble_eq_true rfl, Nat.le_of_ble_eq_true rfl⟩ rfl rfl rfl rfl (Nat.le_of_ble_eq_true rfl) dX8_look_3 (fun v_ w1_ hp => ?_)
  obtain ⟨rfl, rfl⟩ := hp
  show Z X (0) (0) (mw E r S) [(0, .ref (r 0)), (1, .int (nI o)), (2, .int (nI 2))] 6 [.int (bI (thB m (za S 2) (nI o))), .ref (r 0)]
  rw [show (bI (thB m (za S 2) (nI o))) = 1 from (thB_1 (by omega) hom hth)]
  refine z_if_eq (pc := 6) (tgt := 40) F dX8_look_6 (by decide) (fun h => absurd h (by decide)) (fun _ => ?_)
  refine z_iload_n (pc := 9) F dX8_look_9 rfl 2 rfl ?_
  refine z_iconst (pc := 10) (v := 0) F dX8_look_10 (by decide) ?_
  refine z_iconst (pc := 11) (v := 5) F dX8_look_11 (by decide) ?_
  refine z_callS0 (pc := 12) (rest := [.ref (r 0)]) F (c_X8_within l E (nI 2) 0 5) 3 ww_Model_97 (by decide +kernel) rfl ⟨Nat.le_of_ble_eq_true rfl, Nat.le_of_ble_eq_true rfl⟩ ⟨Nat.le_of_ble_eq_true rfl, Nat.le_of_ble_eq_true rfl⟩ rfl (Nat.le_of_ble_eq_true rfl) dX8_look_12 (fun v_ w1_ hp => ?_)
  obtain ⟨rfl, rfl⟩ := hp
  show Z X (0) (0) (mw E r S) [(0, .ref (r 0)), (1, .int (nI o)), (2, .int (nI 2))] 15 [.int (bI (decide (0 ≤ (nI 2) ∧ (nI 2) ≤ 5))), .ref (r 0)]
  rw [show (bI (decide (0 ≤ (nI 2) ∧ (nI 2) ≤ 5))) = 1 from (by decide)]
  refine z_if_ne (pc := 15) (tgt := 36) F dX8_look_15 (by decide) (fun _ => ?_) (fun h => absurd h (by decide))
  refine z_iconst (pc := 36) (v := 0) F dX8_look_36 (by decide) ?_
  refine z_goto (pc := 37) (tgt := 41) F dX8_look_37 (by decide) ?_
  refine z_put (pc := 41) (ws' := mw E r (zI S 0 0)) F iX8 tyX8 tyX8_ok nmX8 0 rfl rfl 0 (by decide) tw_858 rfl rfl rfl (Nat.le_of_ble_eq_true rfl) dX8_look_41 rfl ?_
  refine z_aload_n (pc := 44) F dX8_look_44 rfl 0 rfl ?_
  refine z_get (pc := 45) (v := .int 0) F iX8 0 rfl rfl 0 (by decide) tw_858 rfl dX8_look_45 ?_
  refine z_if_eq (pc := 48) (tgt := 53) F dX8_look_48 (by decide) (fun _ => ?_) (fun h => absurd h (by decide))
  refine z_iload_n (pc := 53) F dX8_look_53 rfl 2 rfl ?_
  refine z_iconst (pc := 54) (v := 3) F dX8_look_54 (by decide) ?_
  refine z_icmp_ge (pc := 55) (tgt := 69) F dX8_look_55 (by decide) (fun h => absurd h (by decide)) (fun _ => ?_)
  refine z_aload_n (pc := 58) F dX8_look_58 rfl 0 rfl ?_
  refine z_get (pc := 59) (v := .ref (r 4)) F iX8 0 rfl rfl 6 (by decide) tw_864 rfl dX8_look_59 ?_
  refine z_iconst (pc := 62) (v := 3) F dX8_look_62 (by decide) ?_
  refine z_iload_n (pc := 63) F dX8_look_63 rfl 1 rfl ?_
  refine z_imul (pc := 64) F dX8_look_64 ?_
  refine z_iload_n (pc := 65) F dX8_look_65 rfl 2 rfl ?_
  refine z_iadd (pc := 66) F dX8_look_66 ?_
  refine z_laldN (pc := 67) (f := zb S 4) F 4 1 rfl rfl (3 * o + 2) (ix3b (p := 2)) (by omega) (by decide) dX8_look_67 ?_
  exact z_lret (pc := 68) F hR dX8_look_68 (Nat.le_of_ble_eq_true rfl) (Nat.le_of_ble_eq_true rfl) ⟨rfl, rfl⟩
set_option maxHeartbeats 4000000 in
set_option maxRecDepth 100000 in
theorem c_X8_look_3n (l : Launch) (E : zE) (r : Nat → Nat) (S : zS) (m : Nat) (o : Nat) (hm : m ≤ 60) (hmo : zi S 2 = nI m) (hom : o < m) (hth : ¬ za S 2 o = 0) (hr : za S 5 o = -1) : Ct l yX8_look cX8_look 3 (some .long) ({ frames := 6, cells := 0, slots := 0, locals := 200 } : Room) E (mw E r S) [.ref (r 0), .int (nI o), .int (nI 3)] (fun v_ w_ => v_ = some (.long (-1)) ∧ w_ = mw E r (zI S 0 0)) := by
  refine Ct.of (by decide) (Nat.le_of_ble_eq_true rfl) (lv := [(0, .ref (r 0)), (1, .int (nI o)), (2, .int (nI 3))]) rfl ?_
  intro X F hR
  have F : zF X l ({ frames := 6, cells := 0, slots := 0, locals := 200 } : Room) E cX8_look 3 "LiveQueriesModel" := F
  refine z_aload_n (pc := 0) F dX8_look_0 rfl 0 rfl ?_
  refine z_aload_n (pc := 1) F dX8_look_1 rfl 0 rfl ?_
  refine z_iload_n (pc := 2) F dX8_look_2 rfl 1 rfl ?_
  refine z_callVW (pc := 3) (q0 := 0) (ci := 8) (rest := [.ref (r 0)]) F (c_X8_isThere l E r S m (nI o) hm hmo) 1 ww_Model_168 (by decide +kernel) rfl ⟨Nat.le_of_ble_eq_true rfl, Nat.le_of_ble_eq_true rfl⟩ ⟨Nat.le_of_ble_eq_true rfl, Nat.le_of_ble_eq_true rfl⟩ rfl rfl rfl rfl (Nat.le_of_ble_eq_true rfl) dX8_look_3 (fun v_ w1_ hp => ?_)
  obtain ⟨rfl, rfl⟩ := hp
  show Z X (0) (0) (mw E r S) [(0, .ref (r 0)), (1, .int (nI o)), (2, .int (nI 3))] 6 [.int (bI (thB m (za S 2) (nI o))), .ref (r 0)]
  rw [show (bI (thB m (za S 2) (nI o))) = 1 from (thB_1 (by omega) hom hth)]
  refine z_if_eq (pc := 6) (tgt := 40) F dX8_look_6 (by decide) (fun h => absurd h (by decide)) (fun _ => ?_)
  refine z_iload_n (pc := 9) F dX8_look_9 rfl 2 rfl ?_
  refine z_iconst (pc := 10) (v := 0) F dX8_look_10 (by decide) ?_
  refine z_iconst (pc := 11) (v := 5) F dX8_look_11 (by decide) ?_
  refine z_callS0 (pc := 12) (rest := [.ref (r 0)]) F (c_X8_within l E (nI 3) 0 5) 3 ww_Model_97 (by decide +kernel) rfl ⟨Nat.le_of_ble_eq_true rfl, Nat.le_of_ble_eq_true rfl⟩ ⟨Nat.le_of_ble_eq_true rfl, Nat.le_of_ble_eq_true rfl⟩ rfl (Nat.le_of_ble_eq_true rfl) dX8_look_12 (fun v_ w1_ hp => ?_)
  obtain ⟨rfl, rfl⟩ := hp
  show Z X (0) (0) (mw E r S) [(0, .ref (r 0)), (1, .int (nI o)), (2, .int (nI 3))] 15 [.int (bI (decide (0 ≤ (nI 3) ∧ (nI 3) ≤ 5))), .ref (r 0)]
  rw [show (bI (decide (0 ≤ (nI 3) ∧ (nI 3) ≤ 5))) = 1 from (by decide)]
  refine z_if_ne (pc := 15) (tgt := 36) F dX8_look_15 (by decide) (fun _ => ?_) (fun h => absurd h (by decide))
  refine z_iconst (pc := 36) (v := 0) F dX8_look_36 (by decide) ?_
  refine z_goto (pc := 37) (tgt := 41) F dX8_look_37 (by decide) ?_
  refine z_put (pc := 41) (ws' := mw E r (zI S 0 0)) F iX8 tyX8 tyX8_ok nmX8 0 rfl rfl 0 (by decide) tw_858 rfl rfl rfl (Nat.le_of_ble_eq_true rfl) dX8_look_41 rfl ?_
  refine z_aload_n (pc := 44) F dX8_look_44 rfl 0 rfl ?_
  refine z_get (pc := 45) (v := .int 0) F iX8 0 rfl rfl 0 (by decide) tw_858 rfl dX8_look_45 ?_
  refine z_if_eq (pc := 48) (tgt := 53) F dX8_look_48 (by decide) (fun _ => ?_) (fun h => absurd h (by decide))
  refine z_iload_n (pc := 53) F dX8_look_53 rfl 2 rfl ?_
  refine z_iconst (pc := 54) (v := 3) F dX8_look_54 (by decide) ?_
  refine z_icmp_ge (pc := 55) (tgt := 69) F dX8_look_55 (by decide) (fun _ => ?_) (fun h => absurd h (by decide))
  refine z_iload_n (pc := 69) F dX8_look_69 rfl 2 rfl ?_
  refine z_iconst (pc := 70) (v := 5) F dX8_look_70 (by decide) ?_
  refine z_icmp_le (pc := 71) (tgt := 89) F dX8_look_71 (by decide) (fun _ => ?_) (fun h => absurd h (by decide))
  refine z_iload_n (pc := 89) F dX8_look_89 rfl 2 rfl ?_
  refine z_iconst (pc := 90) (v := 3) F dX8_look_90 (by decide) ?_
  refine z_icmp_ne (pc := 91) (tgt := 134) F dX8_look_91 (by decide) (fun h => absurd h (by decide)) (fun _ => ?_)
  refine z_aload_n (pc := 94) F dX8_look_94 rfl 0 rfl ?_
  refine z_get (pc := 95) (v := .ref (r 5)) F iX8 0 rfl rfl 7 (by decide) tw_865 rfl dX8_look_95 ?_
  refine z_iload_n (pc := 98) F dX8_look_98 rfl 1 rfl ?_
  refine z_ialdN (pc := 99) (f := za S 5) F 5 0 rfl rfl o rfl (by omega) (by decide) dX8_look_99 ?_
  rw [show (za S 5 o) = (-1) from hr]
  refine z_iconst (pc := 100) (v := (-1)) F dX8_look_100 (by decide) ?_
  refine z_icmp_eq (pc := 101) (tgt := 128) F dX8_look_101 (by decide) (fun _ => ?_) (fun h => absurd h (by decide))
  refine z_ldc2 (pc := 128) F dX8_look_128 tw_1012 ?_
  refine z_goto (pc := 131) (tgt := 156) F dX8_look_131 (by decide) ?_
  exact z_lret (pc := 156) F hR dX8_look_156 (Nat.le_of_ble_eq_true rfl) (Nat.le_of_ble_eq_true rfl) ⟨rfl, rfl⟩
set_option maxHeartbeats 4000000 in
set_option maxRecDepth 100000 in
theorem c_X8_look_3a (l : Launch) (E : zE) (r : Nat → Nat) (S : zS) (m : Nat) (o : Nat) (i : Nat) (hm : m ≤ 60) (hmo : zi S 2 = nI m) (hom : o < m) (hth : ¬ za S 2 o = 0) (hi : i < 60) (hr : za S 5 o = nI i) (ht : za S 2 i = 0) : Ct l yX8_look cX8_look 3 (some .long) ({ frames := 6, cells := 0, slots := 0, locals := 200 } : Room) E (mw E r S) [.ref (r 0), .int (nI o), .int (nI 3)] (fun v_ w_ => v_ = some (.long (-1)) ∧ w_ = mw E r (zI S 0 0)) := by
  refine Ct.of (by decide) (Nat.le_of_ble_eq_true rfl) (lv := [(0, .ref (r 0)), (1, .int (nI o)), (2, .int (nI 3))]) rfl ?_
  intro X F hR
  have F : zF X l ({ frames := 6, cells := 0, slots := 0, locals := 200 } : Room) E cX8_look 3 "LiveQueriesModel" := F
  refine z_aload_n (pc := 0) F dX8_look_0 rfl 0 rfl ?_
  refine z_aload_n (pc := 1) F dX8_look_1 rfl 0 rfl ?_
  refine z_iload_n (pc := 2) F dX8_look_2 rfl 1 rfl ?_
  refine z_callVW (pc := 3) (q0 := 0) (ci := 8) (rest := [.ref (r 0)]) F (c_X8_isThere l E r S m (nI o) hm hmo) 1 ww_Model_168 (by decide +kernel) rfl ⟨Nat.le_of_ble_eq_true rfl, Nat.le_of_ble_eq_true rfl⟩ ⟨Nat.le_of_ble_eq_true rfl, Nat.le_of_ble_eq_true rfl⟩ rfl rfl rfl rfl (Nat.le_of_ble_eq_true rfl) dX8_look_3 (fun v_ w1_ hp => ?_)
  obtain ⟨rfl, rfl⟩ := hp
  show Z X (0) (0) (mw E r S) [(0, .ref (r 0)), (1, .int (nI o)), (2, .int (nI 3))] 6 [.int (bI (thB m (za S 2) (nI o))), .ref (r 0)]
  rw [show (bI (thB m (za S 2) (nI o))) = 1 from (thB_1 (by omega) hom hth)]
  refine z_if_eq (pc := 6) (tgt := 40) F dX8_look_6 (by decide) (fun h => absurd h (by decide)) (fun _ => ?_)
  refine z_iload_n (pc := 9) F dX8_look_9 rfl 2 rfl ?_
  refine z_iconst (pc := 10) (v := 0) F dX8_look_10 (by decide) ?_
  refine z_iconst (pc := 11) (v := 5) F dX8_look_11 (by decide) ?_
  refine z_callS0 (pc := 12) (rest := [.ref (r 0)]) F (c_X8_within l E (nI 3) 0 5) 3 ww_Model_97 (by decide +kernel) rfl ⟨Nat.le_of_ble_eq_true rfl, Nat.le_of_ble_eq_true rfl⟩ ⟨Nat.le_of_ble_eq_true rfl, Nat.le_of_ble_eq_true rfl⟩ rfl (Nat.le_of_ble_eq_true rfl) dX8_look_12 (fun v_ w1_ hp => ?_)
  obtain ⟨rfl, rfl⟩ := hp
  show Z X (0) (0) (mw E r S) [(0, .ref (r 0)), (1, .int (nI o)), (2, .int (nI 3))] 15 [.int (bI (decide (0 ≤ (nI 3) ∧ (nI 3) ≤ 5))), .ref (r 0)]
  rw [show (bI (decide (0 ≤ (nI 3) ∧ (nI 3) ≤ 5))) = 1 from (by decide)]
  refine z_if_ne (pc := 15) (tgt := 36) F dX8_look_15 (by decide) (fun _ => ?_) (fun h => absurd h (by decide))
  refine z_iconst (pc := 36) (v := 0) F dX8_look_36 (by decide) ?_
  refine z_goto (pc := 37) (tgt := 41) F dX8_look_37 (by decide) ?_
  refine z_put (pc := 41) (ws' := mw E r (zI S 0 0)) F iX8 tyX8 tyX8_ok nmX8 0 rfl rfl 0 (by decide) tw_858 rfl rfl rfl (Nat.le_of_ble_eq_true rfl) dX8_look_41 rfl ?_
  refine z_aload_n (pc := 44) F dX8_look_44 rfl 0 rfl ?_
  refine z_get (pc := 45) (v := .int 0) F iX8 0 rfl rfl 0 (by decide) tw_858 rfl dX8_look_45 ?_
  refine z_if_eq (pc := 48) (tgt := 53) F dX8_look_48 (by decide) (fun _ => ?_) (fun h => absurd h (by decide))
  refine z_iload_n (pc := 53) F dX8_look_53 rfl 2 rfl ?_
  refine z_iconst (pc := 54) (v := 3) F dX8_look_54 (by decide) ?_
  refine z_icmp_ge (pc := 55) (tgt := 69) F dX8_look_55 (by decide) (fun _ => ?_) (fun h => absurd h (by decide))
  refine z_iload_n (pc := 69) F dX8_look_69 rfl 2 rfl ?_
  refine z_iconst (pc := 70) (v := 5) F dX8_look_70 (by decide) ?_
  refine z_icmp_le (pc := 71) (tgt := 89) F dX8_look_71 (by decide) (fun _ => ?_) (fun h => absurd h (by decide))
  refine z_iload_n (pc := 89) F dX8_look_89 rfl 2 rfl ?_
  refine z_iconst (pc := 90) (v := 3) F dX8_look_90 (by decide) ?_
  refine z_icmp_ne (pc := 91) (tgt := 134) F dX8_look_91 (by decide) (fun h => absurd h (by decide)) (fun _ => ?_)
  refine z_aload_n (pc := 94) F dX8_look_94 rfl 0 rfl ?_
  refine z_get (pc := 95) (v := .ref (r 5)) F iX8 0 rfl rfl 7 (by decide) tw_865 rfl dX8_look_95 ?_
  refine z_iload_n (pc := 98) F dX8_look_98 rfl 1 rfl ?_
  refine z_ialdN (pc := 99) (f := za S 5) F 5 0 rfl rfl o rfl (by omega) (by decide) dX8_look_99 ?_
  rw [show (za S 5 o) = nI i from hr]
  refine z_iconst (pc := 100) (v := (-1)) F dX8_look_100 (by decide) ?_
  refine z_icmp_eq (pc := 101) (tgt := 128) F dX8_look_101 (by decide) (fun c101 => absurd c101 (nI_nm (by omega))) (fun c101 => ?_)
  refine z_aload_n (pc := 104) F dX8_look_104 rfl 0 rfl ?_
  refine z_get (pc := 105) (v := .ref (r 2)) F iX8 0 rfl rfl 4 (by decide) tw_862 rfl dX8_look_105 ?_
  refine z_aload_n (pc := 108) F dX8_look_108 rfl 0 rfl ?_
  refine z_get (pc := 109) (v := .ref (r 5)) F iX8 0 rfl rfl 7 (by decide) tw_865 rfl dX8_look_109 ?_
  refine z_iload_n (pc := 112) F dX8_look_112 rfl 1 rfl ?_
  refine z_ialdN (pc := 113) (f := za S 5) F 5 0 rfl rfl o rfl (by omega) (by decide) dX8_look_113 ?_
  rw [show (za S 5 o) = nI i from hr]
  refine z_zaldN (pc := 114) (f := za S 2) F 2 2 rfl rfl i rfl (by omega) (by decide) dX8_look_114 ?_
  rw [show (za S 2 i) = 0 from ht]
  refine z_if_eq (pc := 115) (tgt := 128) F dX8_look_115 (by decide) (fun _ => ?_) (fun h => absurd h (by decide))
  refine z_ldc2 (pc := 128) F dX8_look_128 tw_1012 ?_
  refine z_goto (pc := 131) (tgt := 156) F dX8_look_131 (by decide) ?_
  exact z_lret (pc := 156) F hR dX8_look_156 (Nat.le_of_ble_eq_true rfl) (Nat.le_of_ble_eq_true rfl) ⟨rfl, rfl⟩
set_option maxHeartbeats 4000000 in
set_option maxRecDepth 100000 in
theorem c_X8_look_3b (l : Launch) (E : zE) (r : Nat → Nat) (S : zS) (m : Nat) (o : Nat) (i : Nat) (hm : m ≤ 60) (hmo : zi S 2 = nI m) (hom : o < m) (hth : ¬ za S 2 o = 0) (hi : i < 60) (hr : za S 5 o = nI i) (ht : ¬ za S 2 i = 0) : Ct l yX8_look cX8_look 3 (some .long) ({ frames := 6, cells := 0, slots := 0, locals := 200 } : Room) E (mw E r S) [.ref (r 0), .int (nI o), .int (nI 3)] (fun v_ w_ => v_ = some (.long (lN i)) ∧ w_ = mw E r (zI S 0 0)) := by
  refine Ct.of (by decide) (Nat.le_of_ble_eq_true rfl) (lv := [(0, .ref (r 0)), (1, .int (nI o)), (2, .int (nI 3))]) rfl ?_
  intro X F hR
  have F : zF X l ({ frames := 6, cells := 0, slots := 0, locals := 200 } : Room) E cX8_look 3 "LiveQueriesModel" := F
  refine z_aload_n (pc := 0) F dX8_look_0 rfl 0 rfl ?_
  refine z_aload_n (pc := 1) F dX8_look_1 rfl 0 rfl ?_
  refine z_iload_n (pc := 2) F dX8_look_2 rfl 1 rfl ?_
  refine z_callVW (pc := 3) (q0 := 0) (ci := 8) (rest := [.ref (r 0)]) F (c_X8_isThere l E r S m (nI o) hm hmo) 1 ww_Model_168 (by decide +kernel) rfl ⟨Nat.le_of_ble_eq_true rfl, Nat.le_of_ble_eq_true rfl⟩ ⟨Nat.le_of_ble_eq_true rfl, Nat.le_of_ble_eq_true rfl⟩ rfl rfl rfl rfl (Nat.le_of_ble_eq_true rfl) dX8_look_3 (fun v_ w1_ hp => ?_)
  obtain ⟨rfl, rfl⟩ := hp
  show Z X (0) (0) (mw E r S) [(0, .ref (r 0)), (1, .int (nI o)), (2, .int (nI 3))] 6 [.int (bI (thB m (za S 2) (nI o))), .ref (r 0)]
  rw [show (bI (thB m (za S 2) (nI o))) = 1 from (thB_1 (by omega) hom hth)]
  refine z_if_eq (pc := 6) (tgt := 40) F dX8_look_6 (by decide) (fun h => absurd h (by decide)) (fun _ => ?_)
  refine z_iload_n (pc := 9) F dX8_look_9 rfl 2 rfl ?_
  refine z_iconst (pc := 10) (v := 0) F dX8_look_10 (by decide) ?_
  refine z_iconst (pc := 11) (v := 5) F dX8_look_11 (by decide) ?_
  refine z_callS0 (pc := 12) (rest := [.ref (r 0)]) F (c_X8_within l E (nI 3) 0 5) 3 ww_Model_97 (by decide +kernel) rfl ⟨Nat.le_of_ble_eq_true rfl, Nat.le_of_ble_eq_true rfl⟩ ⟨Nat.le_of_ble_eq_true rfl, Nat.le_of_ble_eq_true rfl⟩ rfl (Nat.le_of_ble_eq_true rfl) dX8_look_12 (fun v_ w1_ hp => ?_)
  obtain ⟨rfl, rfl⟩ := hp
  show Z X (0) (0) (mw E r S) [(0, .ref (r 0)), (1, .int (nI o)), (2, .int (nI 3))] 15 [.int (bI (decide (0 ≤ (nI 3) ∧ (nI 3) ≤ 5))), .ref (r 0)]
  rw [show (bI (decide (0 ≤ (nI 3) ∧ (nI 3) ≤ 5))) = 1 from (by decide)]
  refine z_if_ne (pc := 15) (tgt := 36) F dX8_look_15 (by decide) (fun _ => ?_) (fun h => absurd h (by decide))
  refine z_iconst (pc := 36) (v := 0) F dX8_look_36 (by decide) ?_
  refine z_goto (pc := 37) (tgt := 41) F dX8_look_37 (by decide) ?_
  refine z_put (pc := 41) (ws' := mw E r (zI S 0 0)) F iX8 tyX8 tyX8_ok nmX8 0 rfl rfl 0 (by decide) tw_858 rfl rfl rfl (Nat.le_of_ble_eq_true rfl) dX8_look_41 rfl ?_
  refine z_aload_n (pc := 44) F dX8_look_44 rfl 0 rfl ?_
  refine z_get (pc := 45) (v := .int 0) F iX8 0 rfl rfl 0 (by decide) tw_858 rfl dX8_look_45 ?_
  refine z_if_eq (pc := 48) (tgt := 53) F dX8_look_48 (by decide) (fun _ => ?_) (fun h => absurd h (by decide))
  refine z_iload_n (pc := 53) F dX8_look_53 rfl 2 rfl ?_
  refine z_iconst (pc := 54) (v := 3) F dX8_look_54 (by decide) ?_
  refine z_icmp_ge (pc := 55) (tgt := 69) F dX8_look_55 (by decide) (fun _ => ?_) (fun h => absurd h (by decide))
  refine z_iload_n (pc := 69) F dX8_look_69 rfl 2 rfl ?_
  refine z_iconst (pc := 70) (v := 5) F dX8_look_70 (by decide) ?_
  refine z_icmp_le (pc := 71) (tgt := 89) F dX8_look_71 (by decide) (fun _ => ?_) (fun h => absurd h (by decide))
  refine z_iload_n (pc := 89) F dX8_look_89 rfl 2 rfl ?_
  refine z_iconst (pc := 90) (v := 3) F dX8_look_90 (by decide) ?_
  refine z_icmp_ne (pc := 91) (tgt := 134) F dX8_look_91 (by decide) (fun h => absurd h (by decide)) (fun _ => ?_)
  refine z_aload_n (pc := 94) F dX8_look_94 rfl 0 rfl ?_
  refine z_get (pc := 95) (v := .ref (r 5)) F iX8 0 rfl rfl 7 (by decide) tw_865 rfl dX8_look_95 ?_
  refine z_iload_n (pc := 98) F dX8_look_98 rfl 1 rfl ?_
  refine z_ialdN (pc := 99) (f := za S 5) F 5 0 rfl rfl o rfl (by omega) (by decide) dX8_look_99 ?_
  rw [show (za S 5 o) = nI i from hr]
  refine z_iconst (pc := 100) (v := (-1)) F dX8_look_100 (by decide) ?_
  refine z_icmp_eq (pc := 101) (tgt := 128) F dX8_look_101 (by decide) (fun c101 => absurd c101 (nI_nm (by omega))) (fun c101 => ?_)
  refine z_aload_n (pc := 104) F dX8_look_104 rfl 0 rfl ?_
  refine z_get (pc := 105) (v := .ref (r 2)) F iX8 0 rfl rfl 4 (by decide) tw_862 rfl dX8_look_105 ?_
  refine z_aload_n (pc := 108) F dX8_look_108 rfl 0 rfl ?_
  refine z_get (pc := 109) (v := .ref (r 5)) F iX8 0 rfl rfl 7 (by decide) tw_865 rfl dX8_look_109 ?_
  refine z_iload_n (pc := 112) F dX8_look_112 rfl 1 rfl ?_
  refine z_ialdN (pc := 113) (f := za S 5) F 5 0 rfl rfl o rfl (by omega) (by decide) dX8_look_113 ?_
  rw [show (za S 5 o) = nI i from hr]
  refine z_zaldN (pc := 114) (f := za S 2) F 2 2 rfl rfl i rfl (by omega) (by decide) dX8_look_114 ?_
  refine z_if_eq (pc := 115) (tgt := 128) F dX8_look_115 (by decide) (fun c115 => absurd c115 ht) (fun c115 => ?_)
  refine z_aload_n (pc := 118) F dX8_look_118 rfl 0 rfl ?_
  refine z_get (pc := 119) (v := .ref (r 5)) F iX8 0 rfl rfl 7 (by decide) tw_865 rfl dX8_look_119 ?_
  refine z_iload_n (pc := 122) F dX8_look_122 rfl 1 rfl ?_
  refine z_ialdN (pc := 123) (f := za S 5) F 5 0 rfl rfl o rfl (by omega) (by decide) dX8_look_123 ?_
  rw [show (za S 5 o) = nI i from hr]
  refine z_i2l (pc := 124) F dX8_look_124 ?_
  rw [show ((nI i).toInt64) = lN i from (nI_l (by omega))]
  refine z_goto (pc := 125) (tgt := 156) F dX8_look_125 (by decide) ?_
  exact z_lret (pc := 156) F hR dX8_look_156 (Nat.le_of_ble_eq_true rfl) (Nat.le_of_ble_eq_true rfl) ⟨rfl, rfl⟩
set_option maxHeartbeats 4000000 in
set_option maxRecDepth 100000 in
theorem c_X8_look_4 (l : Launch) (E : zE) (r : Nat → Nat) (S : zS) (m : Nat) (o : Nat) (hm : m ≤ 60) (hmo : zi S 2 = nI m) (hom : o < m) (hth : ¬ za S 2 o = 0) : Ct l yX8_look cX8_look 3 (some .long) ({ frames := 6, cells := 0, slots := 0, locals := 200 } : Room) E (mw E r S) [.ref (r 0), .int (nI o), .int (nI 4)] (fun v_ w_ => v_ = some (.long ((za S 6 o).toInt64)) ∧ w_ = mw E r (zI S 0 0)) := by
  refine Ct.of (by decide) (Nat.le_of_ble_eq_true rfl) (lv := [(0, .ref (r 0)), (1, .int (nI o)), (2, .int (nI 4))]) rfl ?_
  intro X F hR
  have F : zF X l ({ frames := 6, cells := 0, slots := 0, locals := 200 } : Room) E cX8_look 3 "LiveQueriesModel" := F
  refine z_aload_n (pc := 0) F dX8_look_0 rfl 0 rfl ?_
  refine z_aload_n (pc := 1) F dX8_look_1 rfl 0 rfl ?_
  refine z_iload_n (pc := 2) F dX8_look_2 rfl 1 rfl ?_
  refine z_callVW (pc := 3) (q0 := 0) (ci := 8) (rest := [.ref (r 0)]) F (c_X8_isThere l E r S m (nI o) hm hmo) 1 ww_Model_168 (by decide +kernel) rfl ⟨Nat.le_of_ble_eq_true rfl, Nat.le_of_ble_eq_true rfl⟩ ⟨Nat.le_of_ble_eq_true rfl, Nat.le_of_ble_eq_true rfl⟩ rfl rfl rfl rfl (Nat.le_of_ble_eq_true rfl) dX8_look_3 (fun v_ w1_ hp => ?_)
  obtain ⟨rfl, rfl⟩ := hp
  show Z X (0) (0) (mw E r S) [(0, .ref (r 0)), (1, .int (nI o)), (2, .int (nI 4))] 6 [.int (bI (thB m (za S 2) (nI o))), .ref (r 0)]
  rw [show (bI (thB m (za S 2) (nI o))) = 1 from (thB_1 (by omega) hom hth)]
  refine z_if_eq (pc := 6) (tgt := 40) F dX8_look_6 (by decide) (fun h => absurd h (by decide)) (fun _ => ?_)
  refine z_iload_n (pc := 9) F dX8_look_9 rfl 2 rfl ?_
  refine z_iconst (pc := 10) (v := 0) F dX8_look_10 (by decide) ?_
  refine z_iconst (pc := 11) (v := 5) F dX8_look_11 (by decide) ?_
  refine z_callS0 (pc := 12) (rest := [.ref (r 0)]) F (c_X8_within l E (nI 4) 0 5) 3 ww_Model_97 (by decide +kernel) rfl ⟨Nat.le_of_ble_eq_true rfl, Nat.le_of_ble_eq_true rfl⟩ ⟨Nat.le_of_ble_eq_true rfl, Nat.le_of_ble_eq_true rfl⟩ rfl (Nat.le_of_ble_eq_true rfl) dX8_look_12 (fun v_ w1_ hp => ?_)
  obtain ⟨rfl, rfl⟩ := hp
  show Z X (0) (0) (mw E r S) [(0, .ref (r 0)), (1, .int (nI o)), (2, .int (nI 4))] 15 [.int (bI (decide (0 ≤ (nI 4) ∧ (nI 4) ≤ 5))), .ref (r 0)]
  rw [show (bI (decide (0 ≤ (nI 4) ∧ (nI 4) ≤ 5))) = 1 from (by decide)]
  refine z_if_ne (pc := 15) (tgt := 36) F dX8_look_15 (by decide) (fun _ => ?_) (fun h => absurd h (by decide))
  refine z_iconst (pc := 36) (v := 0) F dX8_look_36 (by decide) ?_
  refine z_goto (pc := 37) (tgt := 41) F dX8_look_37 (by decide) ?_
  refine z_put (pc := 41) (ws' := mw E r (zI S 0 0)) F iX8 tyX8 tyX8_ok nmX8 0 rfl rfl 0 (by decide) tw_858 rfl rfl rfl (Nat.le_of_ble_eq_true rfl) dX8_look_41 rfl ?_
  refine z_aload_n (pc := 44) F dX8_look_44 rfl 0 rfl ?_
  refine z_get (pc := 45) (v := .int 0) F iX8 0 rfl rfl 0 (by decide) tw_858 rfl dX8_look_45 ?_
  refine z_if_eq (pc := 48) (tgt := 53) F dX8_look_48 (by decide) (fun _ => ?_) (fun h => absurd h (by decide))
  refine z_iload_n (pc := 53) F dX8_look_53 rfl 2 rfl ?_
  refine z_iconst (pc := 54) (v := 3) F dX8_look_54 (by decide) ?_
  refine z_icmp_ge (pc := 55) (tgt := 69) F dX8_look_55 (by decide) (fun _ => ?_) (fun h => absurd h (by decide))
  refine z_iload_n (pc := 69) F dX8_look_69 rfl 2 rfl ?_
  refine z_iconst (pc := 70) (v := 5) F dX8_look_70 (by decide) ?_
  refine z_icmp_le (pc := 71) (tgt := 89) F dX8_look_71 (by decide) (fun _ => ?_) (fun h => absurd h (by decide))
  refine z_iload_n (pc := 89) F dX8_look_89 rfl 2 rfl ?_
  refine z_iconst (pc := 90) (v := 3) F dX8_look_90 (by decide) ?_
  refine z_icmp_ne (pc := 91) (tgt := 134) F dX8_look_91 (by decide) (fun _ => ?_) (fun h => absurd h (by decide))
  refine z_iload_n (pc := 134) F dX8_look_134 rfl 2 rfl ?_
  refine z_iconst (pc := 135) (v := 4) F dX8_look_135 (by decide) ?_
  refine z_icmp_ne (pc := 136) (tgt := 149) F dX8_look_136 (by decide) (fun h => absurd h (by decide)) (fun _ => ?_)
  refine z_aload_n (pc := 139) F dX8_look_139 rfl 0 rfl ?_
  refine z_get (pc := 140) (v := .ref (r 6)) F iX8 0 rfl rfl 8 (by decide) tw_866 rfl dX8_look_140 ?_
  refine z_iload_n (pc := 143) F dX8_look_143 rfl 1 rfl ?_
  refine z_ialdN (pc := 144) (f := za S 6) F 6 0 rfl rfl o rfl (by omega) (by decide) dX8_look_144 ?_
  refine z_i2l (pc := 145) F dX8_look_145 ?_
  refine z_goto (pc := 146) (tgt := 156) F dX8_look_146 (by decide) ?_
  exact z_lret (pc := 156) F hR dX8_look_156 (Nat.le_of_ble_eq_true rfl) (Nat.le_of_ble_eq_true rfl) ⟨rfl, rfl⟩
set_option maxHeartbeats 4000000 in
set_option maxRecDepth 100000 in
theorem c_X8_look_5 (l : Launch) (E : zE) (r : Nat → Nat) (S : zS) (m : Nat) (o : Nat) (hm : m ≤ 60) (hmo : zi S 2 = nI m) (hom : o < m) (hth : ¬ za S 2 o = 0) : Ct l yX8_look cX8_look 3 (some .long) ({ frames := 6, cells := 0, slots := 0, locals := 200 } : Room) E (mw E r S) [.ref (r 0), .int (nI o), .int (nI 5)] (fun v_ w_ => v_ = some (.long ((za S 3 o).toInt64)) ∧ w_ = mw E r (zI S 0 0)) := by
  refine Ct.of (by decide) (Nat.le_of_ble_eq_true rfl) (lv := [(0, .ref (r 0)), (1, .int (nI o)), (2, .int (nI 5))]) rfl ?_
  intro X F hR
  have F : zF X l ({ frames := 6, cells := 0, slots := 0, locals := 200 } : Room) E cX8_look 3 "LiveQueriesModel" := F
  refine z_aload_n (pc := 0) F dX8_look_0 rfl 0 rfl ?_
  refine z_aload_n (pc := 1) F dX8_look_1 rfl 0 rfl ?_
  refine z_iload_n (pc := 2) F dX8_look_2 rfl 1 rfl ?_
  refine z_callVW (pc := 3) (q0 := 0) (ci := 8) (rest := [.ref (r 0)]) F (c_X8_isThere l E r S m (nI o) hm hmo) 1 ww_Model_168 (by decide +kernel) rfl ⟨Nat.le_of_ble_eq_true rfl, Nat.le_of_ble_eq_true rfl⟩ ⟨Nat.le_of_ble_eq_true rfl, Nat.le_of_ble_eq_true rfl⟩ rfl rfl rfl rfl (Nat.le_of_ble_eq_true rfl) dX8_look_3 (fun v_ w1_ hp => ?_)
  obtain ⟨rfl, rfl⟩ := hp
  show Z X (0) (0) (mw E r S) [(0, .ref (r 0)), (1, .int (nI o)), (2, .int (nI 5))] 6 [.int (bI (thB m (za S 2) (nI o))), .ref (r 0)]
  rw [show (bI (thB m (za S 2) (nI o))) = 1 from (thB_1 (by omega) hom hth)]
  refine z_if_eq (pc := 6) (tgt := 40) F dX8_look_6 (by decide) (fun h => absurd h (by decide)) (fun _ => ?_)
  refine z_iload_n (pc := 9) F dX8_look_9 rfl 2 rfl ?_
  refine z_iconst (pc := 10) (v := 0) F dX8_look_10 (by decide) ?_
  refine z_iconst (pc := 11) (v := 5) F dX8_look_11 (by decide) ?_
  refine z_callS0 (pc := 12) (rest := [.ref (r 0)]) F (c_X8_within l E (nI 5) 0 5) 3 ww_Model_97 (by decide +kernel) rfl ⟨Nat.le_of_ble_eq_true rfl, Nat.le_of_ble_eq_true rfl⟩ ⟨Nat.le_of_ble_eq_true rfl, Nat.le_of_ble_eq_true rfl⟩ rfl (Nat.le_of_ble_eq_true rfl) dX8_look_12 (fun v_ w1_ hp => ?_)
  obtain ⟨rfl, rfl⟩ := hp
  show Z X (0) (0) (mw E r S) [(0, .ref (r 0)), (1, .int (nI o)), (2, .int (nI 5))] 15 [.int (bI (decide (0 ≤ (nI 5) ∧ (nI 5) ≤ 5))), .ref (r 0)]
  rw [show (bI (decide (0 ≤ (nI 5) ∧ (nI 5) ≤ 5))) = 1 from (by decide)]
  refine z_if_ne (pc := 15) (tgt := 36) F dX8_look_15 (by decide) (fun _ => ?_) (fun h => absurd h (by decide))
  refine z_iconst (pc := 36) (v := 0) F dX8_look_36 (by decide) ?_
  refine z_goto (pc := 37) (tgt := 41) F dX8_look_37 (by decide) ?_
  refine z_put (pc := 41) (ws' := mw E r (zI S 0 0)) F iX8 tyX8 tyX8_ok nmX8 0 rfl rfl 0 (by decide) tw_858 rfl rfl rfl (Nat.le_of_ble_eq_true rfl) dX8_look_41 rfl ?_
  refine z_aload_n (pc := 44) F dX8_look_44 rfl 0 rfl ?_
  refine z_get (pc := 45) (v := .int 0) F iX8 0 rfl rfl 0 (by decide) tw_858 rfl dX8_look_45 ?_
  refine z_if_eq (pc := 48) (tgt := 53) F dX8_look_48 (by decide) (fun _ => ?_) (fun h => absurd h (by decide))
  refine z_iload_n (pc := 53) F dX8_look_53 rfl 2 rfl ?_
  refine z_iconst (pc := 54) (v := 3) F dX8_look_54 (by decide) ?_
  refine z_icmp_ge (pc := 55) (tgt := 69) F dX8_look_55 (by decide) (fun _ => ?_) (fun h => absurd h (by decide))
  refine z_iload_n (pc := 69) F dX8_look_69 rfl 2 rfl ?_
  refine z_iconst (pc := 70) (v := 5) F dX8_look_70 (by decide) ?_
  refine z_icmp_le (pc := 71) (tgt := 89) F dX8_look_71 (by decide) (fun _ => ?_) (fun h => absurd h (by decide))
  refine z_iload_n (pc := 89) F dX8_look_89 rfl 2 rfl ?_
  refine z_iconst (pc := 90) (v := 3) F dX8_look_90 (by decide) ?_
  refine z_icmp_ne (pc := 91) (tgt := 134) F dX8_look_91 (by decide) (fun _ => ?_) (fun h => absurd h (by decide))
  refine z_iload_n (pc := 134) F dX8_look_134 rfl 2 rfl ?_
  refine z_iconst (pc := 135) (v := 4) F dX8_look_135 (by decide) ?_
  refine z_icmp_ne (pc := 136) (tgt := 149) F dX8_look_136 (by decide) (fun _ => ?_) (fun h => absurd h (by decide))
  refine z_aload_n (pc := 149) F dX8_look_149 rfl 0 rfl ?_
  refine z_get (pc := 150) (v := .ref (r 3)) F iX8 0 rfl rfl 5 (by decide) tw_863 rfl dX8_look_150 ?_
  refine z_iload_n (pc := 153) F dX8_look_153 rfl 1 rfl ?_
  refine z_ialdN (pc := 154) (f := za S 3) F 3 0 rfl rfl o rfl (by omega) (by decide) dX8_look_154 ?_
  refine z_i2l (pc := 155) F dX8_look_155 ?_
  exact z_lret (pc := 156) F hR dX8_look_156 (Nat.le_of_ble_eq_true rfl) (Nat.le_of_ble_eq_true rfl) ⟨rfl, rfl⟩
set_option maxHeartbeats 4000000 in
set_option maxRecDepth 100000 in
theorem c_X8_look_i (l : Launch) (E : zE) (r : Nat → Nat) (S : zS) (m : Nat) (o : Nat) (i : Nat) (ln : Nat) (hm : m ≤ 60) (hmo : zi S 2 = nI m) (hom : o < m) (hth : ¬ za S 2 o = 0) (hl : za S 6 o = nI ln) (hl8 : ln ≤ 8) (hi : i < ln) : Ct l yX8_look cX8_look 3 (some .long) ({ frames := 6, cells := 0, slots := 0, locals := 200 } : Room) E (mw E r S) [.ref (r 0), .int (nI o), .int (nI (10 + i))] (fun v_ w_ => v_ = some (.long (zb S 7 (8 * o + i))) ∧ w_ = mw E r (zI S 0 0)) := by
  refine Ct.of (by decide) (Nat.le_of_ble_eq_true rfl) (lv := [(0, .ref (r 0)), (1, .int (nI o)), (2, .int (nI (10 + i)))]) rfl ?_
  intro X F hR
  have F : zF X l ({ frames := 6, cells := 0, slots := 0, locals := 200 } : Room) E cX8_look 3 "LiveQueriesModel" := F
  refine z_aload_n (pc := 0) F dX8_look_0 rfl 0 rfl ?_
  refine z_aload_n (pc := 1) F dX8_look_1 rfl 0 rfl ?_
  refine z_iload_n (pc := 2) F dX8_look_2 rfl 1 rfl ?_
  refine z_callVW (pc := 3) (q0 := 0) (ci := 8) (rest := [.ref (r 0)]) F (c_X8_isThere l E r S m (nI o) hm hmo) 1 ww_Model_168 (by decide +kernel) rfl ⟨Nat.le_of_ble_eq_true rfl, Nat.le_of_ble_eq_true rfl⟩ ⟨Nat.le_of_ble_eq_true rfl, Nat.le_of_ble_eq_true rfl⟩ rfl rfl rfl rfl (Nat.le_of_ble_eq_true rfl) dX8_look_3 (fun v_ w1_ hp => ?_)
  obtain ⟨rfl, rfl⟩ := hp
  show Z X (0) (0) (mw E r S) [(0, .ref (r 0)), (1, .int (nI o)), (2, .int (nI (10 + i)))] 6 [.int (bI (thB m (za S 2) (nI o))), .ref (r 0)]
  rw [show (bI (thB m (za S 2) (nI o))) = 1 from (thB_1 (by omega) hom hth)]
  refine z_if_eq (pc := 6) (tgt := 40) F dX8_look_6 (by decide) (fun h => absurd h (by decide)) (fun _ => ?_)
  refine z_iload_n (pc := 9) F dX8_look_9 rfl 2 rfl ?_
  refine z_iconst (pc := 10) (v := 0) F dX8_look_10 (by decide) ?_
  refine z_iconst (pc := 11) (v := 5) F dX8_look_11 (by decide) ?_
  refine z_callS0 (pc := 12) (rest := [.ref (r 0)]) F (c_X8_within l E (nI (10 + i)) 0 5) 3 ww_Model_97 (by decide +kernel) rfl ⟨Nat.le_of_ble_eq_true rfl, Nat.le_of_ble_eq_true rfl⟩ ⟨Nat.le_of_ble_eq_true rfl, Nat.le_of_ble_eq_true rfl⟩ rfl (Nat.le_of_ble_eq_true rfl) dX8_look_12 (fun v_ w1_ hp => ?_)
  obtain ⟨rfl, rfl⟩ := hp
  show Z X (0) (0) (mw E r S) [(0, .ref (r 0)), (1, .int (nI o)), (2, .int (nI (10 + i)))] 15 [.int (bI (decide (0 ≤ (nI (10 + i)) ∧ (nI (10 + i)) ≤ 5))), .ref (r 0)]
  rw [show (bI (decide (0 ≤ (nI (10 + i)) ∧ (nI (10 + i)) ≤ 5))) = 0 from (wi0 (fun h => absurd (gI (b := 5) (by omega) (by decide) h.2) (by omega)))]
  refine z_if_ne (pc := 15) (tgt := 36) F dX8_look_15 (by decide) (fun h => absurd h (by decide)) (fun _ => ?_)
  refine z_iload_n (pc := 18) F dX8_look_18 rfl 2 rfl ?_
  refine z_bipush (pc := 19) (v := 10) F dX8_look_19 (by decide) ?_
  refine z_bipush (pc := 21) (v := 9) F dX8_look_21 (by decide) ?_
  refine z_aload_n (pc := 23) F dX8_look_23 rfl 0 rfl ?_
  refine z_get (pc := 24) (v := .ref (r 6)) F iX8 0 rfl rfl 8 (by decide) tw_866 rfl dX8_look_24 ?_
  refine z_iload_n (pc := 27) F dX8_look_27 rfl 1 rfl ?_
  refine z_ialdN (pc := 28) (f := za S 6) F 6 0 rfl rfl o rfl (by omega) (by decide) dX8_look_28 ?_
  rw [show (za S 6 o) = nI ln from hl]
  refine z_iadd (pc := 29) F dX8_look_29 ?_
  rw [show (9 + (nI ln)) = nI (9 + ln) from (nI_add 9 ln)]
  refine z_callS0 (pc := 30) (rest := [.ref (r 0)]) F (c_X8_within l E (nI (10 + i)) 10 (nI (9 + ln))) 3 ww_Model_97 (by decide +kernel) rfl ⟨Nat.le_of_ble_eq_true rfl, Nat.le_of_ble_eq_true rfl⟩ ⟨Nat.le_of_ble_eq_true rfl, Nat.le_of_ble_eq_true rfl⟩ rfl (Nat.le_of_ble_eq_true rfl) dX8_look_30 (fun v_ w1_ hp => ?_)
  obtain ⟨rfl, rfl⟩ := hp
  show Z X (0) (0) (mw E r S) [(0, .ref (r 0)), (1, .int (nI o)), (2, .int (nI (10 + i)))] 33 [.int (bI (decide (10 ≤ (nI (10 + i)) ∧ (nI (10 + i)) ≤ (nI (9 + ln))))), .ref (r 0)]
  rw [show (bI (decide (10 ≤ (nI (10 + i)) ∧ (nI (10 + i)) ≤ (nI (9 + ln))))) = 1 from (wi1 ⟨nI_le (a := 10) (by omega) (by omega), nI_le (by omega) (by omega)⟩)]
  refine z_if_eq (pc := 33) (tgt := 40) F dX8_look_33 (by decide) (fun h => absurd h (by decide)) (fun _ => ?_)
  refine z_iconst (pc := 36) (v := 0) F dX8_look_36 (by decide) ?_
  refine z_goto (pc := 37) (tgt := 41) F dX8_look_37 (by decide) ?_
  refine z_put (pc := 41) (ws' := mw E r (zI S 0 0)) F iX8 tyX8 tyX8_ok nmX8 0 rfl rfl 0 (by decide) tw_858 rfl rfl rfl (Nat.le_of_ble_eq_true rfl) dX8_look_41 rfl ?_
  refine z_aload_n (pc := 44) F dX8_look_44 rfl 0 rfl ?_
  refine z_get (pc := 45) (v := .int 0) F iX8 0 rfl rfl 0 (by decide) tw_858 rfl dX8_look_45 ?_
  refine z_if_eq (pc := 48) (tgt := 53) F dX8_look_48 (by decide) (fun _ => ?_) (fun h => absurd h (by decide))
  refine z_iload_n (pc := 53) F dX8_look_53 rfl 2 rfl ?_
  refine z_iconst (pc := 54) (v := 3) F dX8_look_54 (by decide) ?_
  refine z_icmp_ge (pc := 55) (tgt := 69) F dX8_look_55 (by decide) (fun c55 => ?_) (fun c55 => absurd (nI_le (a := 3) (by omega) (by omega)) c55)
  refine z_iload_n (pc := 69) F dX8_look_69 rfl 2 rfl ?_
  refine z_iconst (pc := 70) (v := 5) F dX8_look_70 (by decide) ?_
  refine z_icmp_le (pc := 71) (tgt := 89) F dX8_look_71 (by decide) (fun c71 => absurd c71 (fun h => absurd (gI (b := 5) (by omega) (by decide) h) (by omega))) (fun c71 => ?_)
  refine z_aload_n (pc := 74) F dX8_look_74 rfl 0 rfl ?_
  refine z_get (pc := 75) (v := .ref (r 7)) F iX8 0 rfl rfl 9 (by decide) tw_867 rfl dX8_look_75 ?_
  refine z_bipush (pc := 78) (v := 8) F dX8_look_78 (by decide) ?_
  refine z_iload_n (pc := 80) F dX8_look_80 rfl 1 rfl ?_
  refine z_imul (pc := 81) F dX8_look_81 ?_
  refine z_iload_n (pc := 82) F dX8_look_82 rfl 2 rfl ?_
  refine z_iadd (pc := 83) F dX8_look_83 ?_
  refine z_bipush (pc := 84) (v := 10) F dX8_look_84 (by decide) ?_
  refine z_isub (pc := 86) F dX8_look_86 ?_
  refine z_laldN (pc := 87) (f := zb S 7) F 7 1 rfl rfl (8 * o + i) ix10 (by omega) (by decide) dX8_look_87 ?_
  exact z_lret (pc := 88) F hR dX8_look_88 (Nat.le_of_ble_eq_true rfl) (Nat.le_of_ble_eq_true rfl) ⟨rfl, rfl⟩
set_option maxHeartbeats 4000000 in
set_option maxRecDepth 100000 in
theorem c_X8_look_t (l : Launch) (E : zE) (r : Nat → Nat) (S : zS) (m : Nat) (o : Int32) (w : Int32) (hm : m ≤ 60) (hmo : zi S 2 = nI m) (hno : ¬ thB m (za S 2) o = true) : Ct l yX8_look cX8_look 3 (some .long) ({ frames := 6, cells := 0, slots := 0, locals := 200 } : Room) E (mw E r S) [.ref (r 0), .int o, .int w] (fun v_ w_ => v_ = some (.long 0) ∧ w_ = mw E r (zI S 0 1)) := by
  refine Ct.of (by decide) (Nat.le_of_ble_eq_true rfl) (lv := [(0, .ref (r 0)), (1, .int o), (2, .int w)]) rfl ?_
  intro X F hR
  have F : zF X l ({ frames := 6, cells := 0, slots := 0, locals := 200 } : Room) E cX8_look 3 "LiveQueriesModel" := F
  refine z_aload_n (pc := 0) F dX8_look_0 rfl 0 rfl ?_
  refine z_aload_n (pc := 1) F dX8_look_1 rfl 0 rfl ?_
  refine z_iload_n (pc := 2) F dX8_look_2 rfl 1 rfl ?_
  refine z_callVW (pc := 3) (q0 := 0) (ci := 8) (rest := [.ref (r 0)]) F (c_X8_isThere l E r S m o hm hmo) 1 ww_Model_168 (by decide +kernel) rfl ⟨Nat.le_of_ble_eq_true rfl, Nat.le_of_ble_eq_true rfl⟩ ⟨Nat.le_of_ble_eq_true rfl, Nat.le_of_ble_eq_true rfl⟩ rfl rfl rfl rfl (Nat.le_of_ble_eq_true rfl) dX8_look_3 (fun v_ w1_ hp => ?_)
  obtain ⟨rfl, rfl⟩ := hp
  show Z X (0) (0) (mw E r S) [(0, .ref (r 0)), (1, .int o), (2, .int w)] 6 [.int (bI (thB m (za S 2) o)), .ref (r 0)]
  refine z_if_eq (pc := 6) (tgt := 40) F dX8_look_6 (by decide) (fun c6 => ?_) (fun c6 => ?_)
  · replace c6 := bI_f c6
    refine z_iconst (pc := 40) (v := 1) F dX8_look_40 (by decide) ?_
    refine z_put (pc := 41) (ws' := mw E r (zI S 0 1)) F iX8 tyX8 tyX8_ok nmX8 0 rfl rfl 0 (by decide) tw_858 rfl rfl rfl (Nat.le_of_ble_eq_true rfl) dX8_look_41 rfl ?_
    refine z_aload_n (pc := 44) F dX8_look_44 rfl 0 rfl ?_
    refine z_get (pc := 45) (v := .int 1) F iX8 0 rfl rfl 0 (by decide) tw_858 rfl dX8_look_45 ?_
    refine z_if_eq (pc := 48) (tgt := 53) F dX8_look_48 (by decide) (fun h => absurd h (by decide)) (fun _ => ?_)
    refine z_lconst (pc := 51) (v := 0) F dX8_look_51 (by decide) ?_
    exact z_lret (pc := 52) F hR dX8_look_52 (Nat.le_of_ble_eq_true rfl) (Nat.le_of_ble_eq_true rfl) ⟨rfl, rfl⟩
  · replace c6 := bI_t c6
    exact absurd c6 hno
set_option maxHeartbeats 4000000 in
set_option maxRecDepth 100000 in
theorem c_X8_look_w (l : Launch) (E : zE) (r : Nat → Nat) (S : zS) (m : Nat) (o : Nat) (w : Int32) (hm : m ≤ 60) (hmo : zi S 2 = nI m) (hom : o < m) (hth : ¬ za S 2 o = 0) (hn1 : ¬ (0 ≤ w ∧ w ≤ 5)) (hn2 : ¬ (10 ≤ w ∧ w ≤ 9 + za S 6 o)) : Ct l yX8_look cX8_look 3 (some .long) ({ frames := 6, cells := 0, slots := 0, locals := 200 } : Room) E (mw E r S) [.ref (r 0), .int (nI o), .int w] (fun v_ w_ => v_ = some (.long 0) ∧ w_ = mw E r (zI S 0 1)) := by
  refine Ct.of (by decide) (Nat.le_of_ble_eq_true rfl) (lv := [(0, .ref (r 0)), (1, .int (nI o)), (2, .int w)]) rfl ?_
  intro X F hR
  have F : zF X l ({ frames := 6, cells := 0, slots := 0, locals := 200 } : Room) E cX8_look 3 "LiveQueriesModel" := F
  refine z_aload_n (pc := 0) F dX8_look_0 rfl 0 rfl ?_
  refine z_aload_n (pc := 1) F dX8_look_1 rfl 0 rfl ?_
  refine z_iload_n (pc := 2) F dX8_look_2 rfl 1 rfl ?_
  refine z_callVW (pc := 3) (q0 := 0) (ci := 8) (rest := [.ref (r 0)]) F (c_X8_isThere l E r S m (nI o) hm hmo) 1 ww_Model_168 (by decide +kernel) rfl ⟨Nat.le_of_ble_eq_true rfl, Nat.le_of_ble_eq_true rfl⟩ ⟨Nat.le_of_ble_eq_true rfl, Nat.le_of_ble_eq_true rfl⟩ rfl rfl rfl rfl (Nat.le_of_ble_eq_true rfl) dX8_look_3 (fun v_ w1_ hp => ?_)
  obtain ⟨rfl, rfl⟩ := hp
  show Z X (0) (0) (mw E r S) [(0, .ref (r 0)), (1, .int (nI o)), (2, .int w)] 6 [.int (bI (thB m (za S 2) (nI o))), .ref (r 0)]
  rw [show (bI (thB m (za S 2) (nI o))) = 1 from (thB_1 (by omega) hom hth)]
  refine z_if_eq (pc := 6) (tgt := 40) F dX8_look_6 (by decide) (fun h => absurd h (by decide)) (fun _ => ?_)
  refine z_iload_n (pc := 9) F dX8_look_9 rfl 2 rfl ?_
  refine z_iconst (pc := 10) (v := 0) F dX8_look_10 (by decide) ?_
  refine z_iconst (pc := 11) (v := 5) F dX8_look_11 (by decide) ?_
  refine z_callS0 (pc := 12) (rest := [.ref (r 0)]) F (c_X8_within l E w 0 5) 3 ww_Model_97 (by decide +kernel) rfl ⟨Nat.le_of_ble_eq_true rfl, Nat.le_of_ble_eq_true rfl⟩ ⟨Nat.le_of_ble_eq_true rfl, Nat.le_of_ble_eq_true rfl⟩ rfl (Nat.le_of_ble_eq_true rfl) dX8_look_12 (fun v_ w1_ hp => ?_)
  obtain ⟨rfl, rfl⟩ := hp
  show Z X (0) (0) (mw E r S) [(0, .ref (r 0)), (1, .int (nI o)), (2, .int w)] 15 [.int (bI (decide (0 ≤ w ∧ w ≤ 5))), .ref (r 0)]
  rw [show (bI (decide (0 ≤ w ∧ w ≤ 5))) = 0 from (wi0 hn1)]
  refine z_if_ne (pc := 15) (tgt := 36) F dX8_look_15 (by decide) (fun h => absurd h (by decide)) (fun _ => ?_)
  refine z_iload_n (pc := 18) F dX8_look_18 rfl 2 rfl ?_
  refine z_bipush (pc := 19) (v := 10) F dX8_look_19 (by decide) ?_
  refine z_bipush (pc := 21) (v := 9) F dX8_look_21 (by decide) ?_
  refine z_aload_n (pc := 23) F dX8_look_23 rfl 0 rfl ?_
  refine z_get (pc := 24) (v := .ref (r 6)) F iX8 0 rfl rfl 8 (by decide) tw_866 rfl dX8_look_24 ?_
  refine z_iload_n (pc := 27) F dX8_look_27 rfl 1 rfl ?_
  refine z_ialdN (pc := 28) (f := za S 6) F 6 0 rfl rfl o rfl (by omega) (by decide) dX8_look_28 ?_
  refine z_iadd (pc := 29) F dX8_look_29 ?_
  refine z_callS0 (pc := 30) (rest := [.ref (r 0)]) F (c_X8_within l E w 10 (9 + (za S 6 o))) 3 ww_Model_97 (by decide +kernel) rfl ⟨Nat.le_of_ble_eq_true rfl, Nat.le_of_ble_eq_true rfl⟩ ⟨Nat.le_of_ble_eq_true rfl, Nat.le_of_ble_eq_true rfl⟩ rfl (Nat.le_of_ble_eq_true rfl) dX8_look_30 (fun v_ w1_ hp => ?_)
  obtain ⟨rfl, rfl⟩ := hp
  show Z X (0) (0) (mw E r S) [(0, .ref (r 0)), (1, .int (nI o)), (2, .int w)] 33 [.int (bI (decide (10 ≤ w ∧ w ≤ (9 + (za S 6 o))))), .ref (r 0)]
  rw [show (bI (decide (10 ≤ w ∧ w ≤ (9 + (za S 6 o))))) = 0 from (wi0 hn2)]
  refine z_if_eq (pc := 33) (tgt := 40) F dX8_look_33 (by decide) (fun _ => ?_) (fun h => absurd h (by decide))
  refine z_iconst (pc := 40) (v := 1) F dX8_look_40 (by decide) ?_
  refine z_put (pc := 41) (ws' := mw E r (zI S 0 1)) F iX8 tyX8 tyX8_ok nmX8 0 rfl rfl 0 (by decide) tw_858 rfl rfl rfl (Nat.le_of_ble_eq_true rfl) dX8_look_41 rfl ?_
  refine z_aload_n (pc := 44) F dX8_look_44 rfl 0 rfl ?_
  refine z_get (pc := 45) (v := .int 1) F iX8 0 rfl rfl 0 (by decide) tw_858 rfl dX8_look_45 ?_
  refine z_if_eq (pc := 48) (tgt := 53) F dX8_look_48 (by decide) (fun h => absurd h (by decide)) (fun _ => ?_)
  refine z_lconst (pc := 51) (v := 0) F dX8_look_51 (by decide) ?_
  exact z_lret (pc := 52) F hR dX8_look_52 (Nat.le_of_ble_eq_true rfl) (Nat.le_of_ble_eq_true rfl) ⟨rfl, rfl⟩

set_option maxHeartbeats 4000000 in
set_option maxRecDepth 100000 in
theorem c_X8_query_n (l : Launch) (E : zE) (r : Nat → Nat) (S : zS) (nq : Nat) (tp : Nat) (sx : Nat → Nat) (R : zQr) (ht : tpo S tp sx) (hn6 : nq < 6) (hn3 : zi S 3 = nI nq) (hQ : rq sx 1000 = some R) (hRb : R.1 = false) : Ct l yX8_query cX8_query 2 (some .int) ({ frames := 1012, cells := 0, slots := 0, locals := 40300 } : Room) E (mw E r S) [.ref (r 0)] (fun v_ w_ => ∃ ac : Int32, ∃ op : Int32, ∃ cd' : Nat → Int32, ∃ nm' : Nat → Int32, ∃ of' : Nat → Int32, ∃ fr' : Nat → Int32, ∃ en' : Nat → Int32, v_ = some (.int (-1 - nI R.2.1)) ∧ w_ = mw E r (mrq (zI (zI S 0 0) 1 0) (nI R.2.1) ac op cd' nm' of' fr' en') ∧ (qbl nq (za S 11) (za S 12) (za S 8) (za S 9) (za S 10) cd' nm' of' fr' en')) := by
  refine Ct.of (by decide) (Nat.le_of_ble_eq_true rfl) (lv := [(0, .ref (r 0))]) rfl ?_
  intro X F hR
  have F : zF X l ({ frames := 1012, cells := 0, slots := 0, locals := 40300 } : Room) E cX8_query 2 "LiveQueriesModel" := F
  show Z X 0 0 (mw E r (mrq S (zi S 9) (zi S 10) (zi S 11) (za S 11) (za S 12) (za S 8) (za S 9) (za S 10))) [(0, .ref (r 0))] 0 []
  refine z_aload_n (pc := 0) F dX8_query_0 rfl 0 rfl ?_
  refine z_get (pc := 1) (v := .int (zi S 3)) F iX8 0 rfl rfl 10 (by decide) tw_868 rfl dX8_query_1 ?_
  rw [show (zi S 3) = nI nq from hn3]
  refine z_bipush (pc := 4) (v := 6) F dX8_query_4 (by decide) ?_
  refine z_icmp_ne (pc := 6) (tgt := 21) F dX8_query_6 (by decide) (fun c6 => ?_) (fun c6 => absurd c6 (fun h => absurd (nIe (b := 6) (by omega) (by decide) h) (by omega)))
  refine z_aload_n (pc := 21) F dX8_query_21 rfl 0 rfl ?_
  refine z_iconst (pc := 22) (v := 0) F dX8_query_22 (by decide) ?_
  refine z_put (pc := 23) (ws' := mw E r (mrq (zI S 0 0) (zi S 9) (zi S 10) (zi S 11) (za S 11) (za S 12) (za S 8) (za S 9) (za S 10))) F iX8 tyX8 tyX8_ok nmX8 0 rfl rfl 0 (by decide) tw_858 rfl rfl rfl (Nat.le_of_ble_eq_true rfl) dX8_query_23 rfl ?_
  refine z_aload_n (pc := 26) F dX8_query_26 rfl 0 rfl ?_
  refine z_iconst (pc := 27) (v := 0) F dX8_query_27 (by decide) ?_
  refine z_put (pc := 28) (ws' := mw E r (mrq (zI S 0 0) 0 (zi S 10) (zi S 11) (za S 11) (za S 12) (za S 8) (za S 9) (za S 10))) F iX8 tyX8 tyX8_ok nmX8 0 rfl rfl 35 (by decide) tw_893 rfl rfl rfl (Nat.le_of_ble_eq_true rfl) dX8_query_28 rfl ?_
  refine z_aload_n (pc := 31) F dX8_query_31 rfl 0 rfl ?_
  refine z_iconst (pc := 32) (v := 0) F dX8_query_32 (by decide) ?_
  refine z_put (pc := 33) (ws' := mw E r (mrq (zI S 0 0) 0 0 (zi S 11) (za S 11) (za S 12) (za S 8) (za S 9) (za S 10))) F iX8 tyX8 tyX8_ok nmX8 0 rfl rfl 36 (by decide) tw_894 rfl rfl rfl (Nat.le_of_ble_eq_true rfl) dX8_query_33 rfl ?_
  refine z_aload_n (pc := 36) F dX8_query_36 rfl 0 rfl ?_
  refine z_iconst (pc := 37) (v := 0) F dX8_query_37 (by decide) ?_
  refine z_put (pc := 38) (ws' := mw E r (mrq (zI S 0 0) 0 0 0 (za S 11) (za S 12) (za S 8) (za S 9) (za S 10))) F iX8 tyX8 tyX8_ok nmX8 0 rfl rfl 37 (by decide) tw_895 rfl rfl rfl (Nat.le_of_ble_eq_true rfl) dX8_query_38 rfl ?_
  refine z_aload_n (pc := 41) F dX8_query_41 rfl 0 rfl ?_
  refine z_callVW (pc := 42) (q0 := 0) (ci := 8) (rest := []) F (c_X8_readQuery l E r (zI S 0 0) nq tp sx (za S 11) (za S 12) (za S 8) (za S 9) (za S 10) R ht hn6 hn3 hQ) 0 ww_Model_232 (by decide +kernel) rfl ⟨Nat.le_of_ble_eq_true rfl, Nat.le_of_ble_eq_true rfl⟩ ⟨Nat.le_of_ble_eq_true rfl, Nat.le_of_ble_eq_true rfl⟩ rfl rfl rfl rfl (Nat.le_of_ble_eq_true rfl) dX8_query_42 (fun v_ w1_ hp => ?_)
  obtain ⟨ac1, op1, cd1, nm1, of1, fr1, en1, rfl, rfl, h42_0, h42_1⟩ := hp
  show Z X (0) (0) (mw E r (mrq (zI S 0 0) (nI R.2.1) ac1 op1 cd1 nm1 of1 fr1 en1)) [(0, .ref (r 0))] 45 [.int (bI R.1)]
  rw [show (bI R.1) = 0 from (by rw [hRb]; rfl)]
  refine z_istore_n (pc := 45) (lv' := [(0, .ref (r 0)), (1, .int 0)]) F dX8_query_45 rfl (by decide) [1, 0] rfl ?_
  refine z_aload_n (pc := 46) F dX8_query_46 rfl 0 rfl ?_
  refine z_iconst (pc := 47) (v := 0) F dX8_query_47 (by decide) ?_
  refine z_put (pc := 48) (ws' := mw E r (mrq (zI (zI S 0 0) 1 0) (nI R.2.1) ac1 op1 cd1 nm1 of1 fr1 en1)) F iX8 tyX8 tyX8_ok nmX8 0 rfl rfl 1 (by decide) tw_859 rfl rfl rfl (Nat.le_of_ble_eq_true rfl) dX8_query_48 rfl ?_
  refine z_iload_n (pc := 51) F dX8_query_51 rfl 1 rfl ?_
  refine z_if_ne (pc := 52) (tgt := 62) F dX8_query_52 (by decide) (fun h => absurd h (by decide)) (fun _ => ?_)
  refine z_iconst (pc := 55) (v := (-1)) F dX8_query_55 (by decide) ?_
  refine z_aload_n (pc := 56) F dX8_query_56 rfl 0 rfl ?_
  refine z_get (pc := 57) (v := .int (nI R.2.1)) F iX8 0 rfl rfl 35 (by decide) tw_893 rfl dX8_query_57 ?_
  refine z_isub (pc := 60) F dX8_query_60 ?_
  exact z_iret (pc := 61) F hR dX8_query_61 (Nat.le_of_ble_eq_true rfl) (Nat.le_of_ble_eq_true rfl) ⟨ac1, op1, cd1, nm1, of1, fr1, en1, rfl, rfl, h42_0⟩
set_option maxHeartbeats 4000000 in
set_option maxRecDepth 100000 in
theorem c_X8_query_y (l : Launch) (E : zE) (r : Nat → Nat) (S : zS) (nq : Nat) (tp : Nat) (sx : Nat → Nat) (R : zQr) (ht : tpo S tp sx) (hn6 : nq < 6) (hn3 : zi S 3 = nI nq) (hQ : rq sx 1000 = some R) (hRb : R.1 = true) : Ct l yX8_query cX8_query 2 (some .int) ({ frames := 1012, cells := 0, slots := 0, locals := 40300 } : Room) E (mw E r S) [.ref (r 0)] (fun v_ w_ => ∃ ac : Int32, ∃ op : Int32, ∃ cd' : Nat → Int32, ∃ nm' : Nat → Int32, ∃ of' : Nat → Int32, ∃ fr' : Nat → Int32, ∃ en' : Nat → Int32, v_ = some (.int (nI nq)) ∧ w_ = mw E r (mrq (zI (zI (zI S 0 0) 1 0) 3 (nI (nq + 1))) (nI R.2.1) ac op cd' nm' of' fr' en') ∧ (qbl nq (za S 11) (za S 12) (za S 8) (za S 9) (za S 10) cd' nm' of' fr' en') ∧ (qdone sx nq R cd' nm' of' fr' en')) := by
  refine Ct.of (by decide) (Nat.le_of_ble_eq_true rfl) (lv := [(0, .ref (r 0))]) rfl ?_
  intro X F hR
  have F : zF X l ({ frames := 1012, cells := 0, slots := 0, locals := 40300 } : Room) E cX8_query 2 "LiveQueriesModel" := F
  show Z X 0 0 (mw E r (mrq S (zi S 9) (zi S 10) (zi S 11) (za S 11) (za S 12) (za S 8) (za S 9) (za S 10))) [(0, .ref (r 0))] 0 []
  refine z_aload_n (pc := 0) F dX8_query_0 rfl 0 rfl ?_
  refine z_get (pc := 1) (v := .int (zi S 3)) F iX8 0 rfl rfl 10 (by decide) tw_868 rfl dX8_query_1 ?_
  rw [show (zi S 3) = nI nq from hn3]
  refine z_bipush (pc := 4) (v := 6) F dX8_query_4 (by decide) ?_
  refine z_icmp_ne (pc := 6) (tgt := 21) F dX8_query_6 (by decide) (fun c6 => ?_) (fun c6 => absurd c6 (fun h => absurd (nIe (b := 6) (by omega) (by decide) h) (by omega)))
  refine z_aload_n (pc := 21) F dX8_query_21 rfl 0 rfl ?_
  refine z_iconst (pc := 22) (v := 0) F dX8_query_22 (by decide) ?_
  refine z_put (pc := 23) (ws' := mw E r (mrq (zI S 0 0) (zi S 9) (zi S 10) (zi S 11) (za S 11) (za S 12) (za S 8) (za S 9) (za S 10))) F iX8 tyX8 tyX8_ok nmX8 0 rfl rfl 0 (by decide) tw_858 rfl rfl rfl (Nat.le_of_ble_eq_true rfl) dX8_query_23 rfl ?_
  refine z_aload_n (pc := 26) F dX8_query_26 rfl 0 rfl ?_
  refine z_iconst (pc := 27) (v := 0) F dX8_query_27 (by decide) ?_
  refine z_put (pc := 28) (ws' := mw E r (mrq (zI S 0 0) 0 (zi S 10) (zi S 11) (za S 11) (za S 12) (za S 8) (za S 9) (za S 10))) F iX8 tyX8 tyX8_ok nmX8 0 rfl rfl 35 (by decide) tw_893 rfl rfl rfl (Nat.le_of_ble_eq_true rfl) dX8_query_28 rfl ?_
  refine z_aload_n (pc := 31) F dX8_query_31 rfl 0 rfl ?_
  refine z_iconst (pc := 32) (v := 0) F dX8_query_32 (by decide) ?_
  refine z_put (pc := 33) (ws' := mw E r (mrq (zI S 0 0) 0 0 (zi S 11) (za S 11) (za S 12) (za S 8) (za S 9) (za S 10))) F iX8 tyX8 tyX8_ok nmX8 0 rfl rfl 36 (by decide) tw_894 rfl rfl rfl (Nat.le_of_ble_eq_true rfl) dX8_query_33 rfl ?_
  refine z_aload_n (pc := 36) F dX8_query_36 rfl 0 rfl ?_
  refine z_iconst (pc := 37) (v := 0) F dX8_query_37 (by decide) ?_
  refine z_put (pc := 38) (ws' := mw E r (mrq (zI S 0 0) 0 0 0 (za S 11) (za S 12) (za S 8) (za S 9) (za S 10))) F iX8 tyX8 tyX8_ok nmX8 0 rfl rfl 37 (by decide) tw_895 rfl rfl rfl (Nat.le_of_ble_eq_true rfl) dX8_query_38 rfl ?_
  refine z_aload_n (pc := 41) F dX8_query_41 rfl 0 rfl ?_
  refine z_callVW (pc := 42) (q0 := 0) (ci := 8) (rest := []) F (c_X8_readQuery l E r (zI S 0 0) nq tp sx (za S 11) (za S 12) (za S 8) (za S 9) (za S 10) R ht hn6 hn3 hQ) 0 ww_Model_232 (by decide +kernel) rfl ⟨Nat.le_of_ble_eq_true rfl, Nat.le_of_ble_eq_true rfl⟩ ⟨Nat.le_of_ble_eq_true rfl, Nat.le_of_ble_eq_true rfl⟩ rfl rfl rfl rfl (Nat.le_of_ble_eq_true rfl) dX8_query_42 (fun v_ w1_ hp => ?_)
  obtain ⟨ac1, op1, cd1, nm1, of1, fr1, en1, rfl, rfl, h42_0, h42_1⟩ := hp
  show Z X (0) (0) (mw E r (mrq (zI S 0 0) (nI R.2.1) ac1 op1 cd1 nm1 of1 fr1 en1)) [(0, .ref (r 0))] 45 [.int (bI R.1)]
  rw [show (bI R.1) = 1 from (by rw [hRb]; rfl)]
  refine z_istore_n (pc := 45) (lv' := [(0, .ref (r 0)), (1, .int 1)]) F dX8_query_45 rfl (by decide) [1, 0] rfl ?_
  refine z_aload_n (pc := 46) F dX8_query_46 rfl 0 rfl ?_
  refine z_iconst (pc := 47) (v := 0) F dX8_query_47 (by decide) ?_
  refine z_put (pc := 48) (ws' := mw E r (mrq (zI (zI S 0 0) 1 0) (nI R.2.1) ac1 op1 cd1 nm1 of1 fr1 en1)) F iX8 tyX8 tyX8_ok nmX8 0 rfl rfl 1 (by decide) tw_859 rfl rfl rfl (Nat.le_of_ble_eq_true rfl) dX8_query_48 rfl ?_
  refine z_iload_n (pc := 51) F dX8_query_51 rfl 1 rfl ?_
  refine z_if_ne (pc := 52) (tgt := 62) F dX8_query_52 (by decide) (fun _ => ?_) (fun h => absurd h (by decide))
  refine z_aload_n (pc := 62) F dX8_query_62 rfl 0 rfl ?_
  refine z_dup (pc := 63) F dX8_query_63 rfl ?_
  refine z_get (pc := 64) (v := .int (zi S 3)) F iX8 0 rfl rfl 10 (by decide) tw_868 rfl dX8_query_64 ?_
  rw [show (zi S 3) = nI nq from hn3]
  refine z_iconst (pc := 67) (v := 1) F dX8_query_67 (by decide) ?_
  refine z_iadd (pc := 68) F dX8_query_68 ?_
  rw [show ((nI nq) + 1) = nI (nq + 1) from (nI_1 _)]
  refine z_put (pc := 69) (ws' := mw E r (mrq (zI (zI (zI S 0 0) 1 0) 3 (nI (nq + 1))) (nI R.2.1) ac1 op1 cd1 nm1 of1 fr1 en1)) F iX8 tyX8 tyX8_ok nmX8 0 rfl rfl 10 (by decide) tw_868 rfl rfl rfl (Nat.le_of_ble_eq_true rfl) dX8_query_69 rfl ?_
  refine z_aload_n (pc := 72) F dX8_query_72 rfl 0 rfl ?_
  refine z_get (pc := 73) (v := .int (nI (nq + 1))) F iX8 0 rfl rfl 10 (by decide) tw_868 rfl dX8_query_73 ?_
  refine z_iconst (pc := 76) (v := 1) F dX8_query_76 (by decide) ?_
  refine z_isub (pc := 77) F dX8_query_77 ?_
  rw [show ((nI (nq + 1)) - 1) = nI nq from (nI_pred _)]
  exact z_iret (pc := 78) F hR dX8_query_78 (Nat.le_of_ble_eq_true rfl) (Nat.le_of_ble_eq_true rfl) ⟨ac1, op1, cd1, nm1, of1, fr1, en1, rfl, rfl, h42_0, h42_1 hRb⟩
set_option maxHeartbeats 4000000 in
set_option maxRecDepth 100000 in
theorem c_X8_query_6 (l : Launch) (E : zE) (r : Nat → Nat) (S : zS) (hn3 : zi S 3 = nI 6) : Ct l yX8_query cX8_query 2 (some .int) ({ frames := 1012, cells := 0, slots := 0, locals := 40300 } : Room) E (mw E r S) [.ref (r 0)] (fun v_ w_ => v_ = some (.int 0) ∧ w_ = mw E r (zI (zI S 1 0) 0 1)) := by
  refine Ct.of (by decide) (Nat.le_of_ble_eq_true rfl) (lv := [(0, .ref (r 0))]) rfl ?_
  intro X F hR
  have F : zF X l ({ frames := 1012, cells := 0, slots := 0, locals := 40300 } : Room) E cX8_query 2 "LiveQueriesModel" := F
  refine z_aload_n (pc := 0) F dX8_query_0 rfl 0 rfl ?_
  refine z_get (pc := 1) (v := .int (zi S 3)) F iX8 0 rfl rfl 10 (by decide) tw_868 rfl dX8_query_1 ?_
  rw [show (zi S 3) = nI 6 from hn3]
  refine z_bipush (pc := 4) (v := 6) F dX8_query_4 (by decide) ?_
  refine z_icmp_ne (pc := 6) (tgt := 21) F dX8_query_6 (by decide) (fun h => absurd h (by decide)) (fun _ => ?_)
  refine z_aload_n (pc := 9) F dX8_query_9 rfl 0 rfl ?_
  refine z_iconst (pc := 10) (v := 0) F dX8_query_10 (by decide) ?_
  refine z_put (pc := 11) (ws' := mw E r (zI S 1 0)) F iX8 tyX8 tyX8_ok nmX8 0 rfl rfl 1 (by decide) tw_859 rfl rfl rfl (Nat.le_of_ble_eq_true rfl) dX8_query_11 rfl ?_
  refine z_aload_n (pc := 14) F dX8_query_14 rfl 0 rfl ?_
  refine z_iconst (pc := 15) (v := 1) F dX8_query_15 (by decide) ?_
  refine z_put (pc := 16) (ws' := mw E r (zI (zI S 1 0) 0 1)) F iX8 tyX8 tyX8_ok nmX8 0 rfl rfl 0 (by decide) tw_858 rfl rfl rfl (Nat.le_of_ble_eq_true rfl) dX8_query_16 rfl ?_
  refine z_iconst (pc := 19) (v := 0) F dX8_query_19 (by decide) ?_
  exact z_iret (pc := 20) F hR dX8_query_20 (Nat.le_of_ble_eq_true rfl) (Nat.le_of_ble_eq_true rfl) ⟨rfl, rfl⟩

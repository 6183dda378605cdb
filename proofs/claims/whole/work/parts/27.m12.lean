set_option maxHeartbeats 4000000 in
set_option maxRecDepth 100000 in
theorem c_X8_see (l : Launch) (E : zE) (r : Nat → Nat) (S : zS) (tp : Nat) (sx : Nat → Nat) (p : Nat) (ac : Int32) (op : Int32) (cd : Nat → Int32) (nm : Nat → Int32) (ht : tpo S tp sx) (hp : p ≤ tp) : Ct l yX8_see cX8_see 1 (some .int) ({ frames := 0, cells := 0, slots := 0, locals := 0 } : Room) E (mw E r (mps S (nI p) ac op cd nm)) [.ref (r 0)] (fun v_ w_ => v_ = some (.int (nI (sx p))) ∧ w_ = mw E r (mps S (nI p) ac op cd nm)) := by
  refine Ct.of (by decide) (Nat.le_of_ble_eq_true rfl) (lv := [(0, .ref (r 0))]) rfl ?_
  intro X F hR
  have F : zF X l ({ frames := 0, cells := 0, slots := 0, locals := 0 } : Room) E cX8_see 1 "LiveQueriesModel" := F
  have htp := ht.2.1
  have hsx := ht.2.2.2.2
  refine z_aload_n (pc := 0) F dX8_see_0 rfl 0 rfl ?_
  refine z_get (pc := 1) (v := .int (nI p)) F iX8 0 rfl rfl 35 (by decide) tw_893 rfl dX8_see_1 ?_
  refine z_aload_n (pc := 4) F dX8_see_4 rfl 0 rfl ?_
  refine z_get (pc := 5) (v := .int (zi S 1)) F iX8 0 rfl rfl 1 (by decide) tw_859 rfl dX8_see_5 ?_
  rw [show (zi S 1) = nI tp from ht.1]
  refine z_icmp_ge (pc := 8) (tgt := 23) F dX8_see_8 (by decide) (fun c8 => ?_) (fun c8 => ?_)
  · have k8 := gI (by omega) (by omega) c8
    refine z_iconst (pc := 23) (v := 0) F dX8_see_23 (by decide) ?_
    exact z_iret (pc := 24) F hR dX8_see_24 (Nat.le_of_ble_eq_true rfl) (Nat.le_of_ble_eq_true rfl) ⟨by rw [ht.2.2.2.1 p k8]; rfl, rfl⟩
  · have k8 := ngI (by omega) (by omega) c8
    refine z_aload_n (pc := 11) F dX8_see_11 rfl 0 rfl ?_
    refine z_get (pc := 12) (v := .ref (r 1)) F iX8 0 rfl rfl 2 (by decide) tw_860 rfl dX8_see_12 ?_
    refine z_aload_n (pc := 15) F dX8_see_15 rfl 0 rfl ?_
    refine z_get (pc := 16) (v := .int (nI p)) F iX8 0 rfl rfl 35 (by decide) tw_893 rfl dX8_see_16 ?_
    refine z_ialdN (pc := 19) (f := za S 1) F 1 0 rfl rfl p rfl (by omega) (by decide) dX8_see_19 ?_
    rw [show (za S 1 p) = nI (sx p) from (ht.2.2.1 p k8)]
    refine z_goto (pc := 20) (tgt := 24) F dX8_see_20 (by decide) ?_
    exact z_iret (pc := 24) F hR dX8_see_24 (Nat.le_of_ble_eq_true rfl) (Nat.le_of_ble_eq_true rfl) ⟨rfl, rfl⟩
set_option maxHeartbeats 4000000 in
set_option maxRecDepth 100000 in
theorem c_X8_want_y (l : Launch) (E : zE) (r : Nat → Nat) (S : zS) (tp : Nat) (sx : Nat → Nat) (p : Nat) (ac : Int32) (op : Int32) (cd : Nat → Int32) (nm : Nat → Int32) (ch : Nat) (ht : tpo S tp sx) (hp : p ≤ tp) (hch : ch < 2 ^ 31) (hc : sx p = ch) : Ct l yX8_want cX8_want 2 (some .boolean) ({ frames := 1, cells := 0, slots := 0, locals := 20 } : Room) E (mw E r (mps S (nI p) ac op cd nm)) [.ref (r 0), .int (nI ch)] (fun v_ w_ => v_ = some (.int (bI true)) ∧ w_ = mw E r (mps S (nI (p + 1)) ac op cd nm)) := by
  refine Ct.of (by decide) (Nat.le_of_ble_eq_true rfl) (lv := [(0, .ref (r 0)), (1, .int (nI ch))]) rfl ?_
  intro X F hR
  have F : zF X l ({ frames := 1, cells := 0, slots := 0, locals := 20 } : Room) E cX8_want 2 "LiveQueriesModel" := F
  have htp := ht.2.1
  have hsx := ht.2.2.2.2
  refine z_aload_n (pc := 0) F dX8_want_0 rfl 0 rfl ?_
  refine z_callVW (pc := 1) (q0 := 0) (ci := 8) (rest := []) F (c_X8_see l E r S tp sx p ac op cd nm ht (by omega)) 0 ww_Model_180 (by decide +kernel) rfl ⟨Nat.le_of_ble_eq_true rfl, Nat.le_of_ble_eq_true rfl⟩ ⟨Nat.le_of_ble_eq_true rfl, Nat.le_of_ble_eq_true rfl⟩ rfl rfl rfl rfl (Nat.le_of_ble_eq_true rfl) dX8_want_1 (fun v_ w1_ hp => ?_)
  obtain ⟨rfl, rfl⟩ := hp
  show Z X (0) (0) (mw E r (mps S (nI p) ac op cd nm)) [(0, .ref (r 0)), (1, .int (nI ch))] 4 [.int (nI (sx p))]
  refine z_iload_n (pc := 4) F dX8_want_4 rfl 1 rfl ?_
  refine z_icmp_eq (pc := 5) (tgt := 10) F dX8_want_5 (by decide) (fun c5 => ?_) (fun c5 => absurd (by rw [hc]) c5)
  refine z_aload_n (pc := 10) F dX8_want_10 rfl 0 rfl ?_
  refine z_dup (pc := 11) F dX8_want_11 rfl ?_
  refine z_get (pc := 12) (v := .int (nI p)) F iX8 0 rfl rfl 35 (by decide) tw_893 rfl dX8_want_12 ?_
  refine z_iconst (pc := 15) (v := 1) F dX8_want_15 (by decide) ?_
  refine z_iadd (pc := 16) F dX8_want_16 ?_
  rw [show ((nI p) + 1) = nI (p + 1) from (nI_1 _)]
  refine z_put (pc := 17) (ws' := mw E r (mps S (nI (p + 1)) ac op cd nm)) F iX8 tyX8 tyX8_ok nmX8 0 rfl rfl 35 (by decide) tw_893 rfl rfl rfl (Nat.le_of_ble_eq_true rfl) dX8_want_17 rfl ?_
  refine z_iconst (pc := 20) (v := 1) F dX8_want_20 (by decide) ?_
  exact z_zret (pc := 21) F hR rfl dX8_want_21 (Nat.le_of_ble_eq_true rfl) (Nat.le_of_ble_eq_true rfl) ⟨rfl, rfl⟩
set_option maxHeartbeats 4000000 in
set_option maxRecDepth 100000 in
theorem c_X8_want_n (l : Launch) (E : zE) (r : Nat → Nat) (S : zS) (tp : Nat) (sx : Nat → Nat) (p : Nat) (ac : Int32) (op : Int32) (cd : Nat → Int32) (nm : Nat → Int32) (ch : Nat) (ht : tpo S tp sx) (hp : p ≤ tp) (hch : ch < 2 ^ 31) (hc : ¬ sx p = ch) : Ct l yX8_want cX8_want 2 (some .boolean) ({ frames := 1, cells := 0, slots := 0, locals := 20 } : Room) E (mw E r (mps S (nI p) ac op cd nm)) [.ref (r 0), .int (nI ch)] (fun v_ w_ => v_ = some (.int (bI false)) ∧ w_ = mw E r (mps S (nI p) ac op cd nm)) := by
  refine Ct.of (by decide) (Nat.le_of_ble_eq_true rfl) (lv := [(0, .ref (r 0)), (1, .int (nI ch))]) rfl ?_
  intro X F hR
  have F : zF X l ({ frames := 1, cells := 0, slots := 0, locals := 20 } : Room) E cX8_want 2 "LiveQueriesModel" := F
  have htp := ht.2.1
  have hsx := ht.2.2.2.2
  refine z_aload_n (pc := 0) F dX8_want_0 rfl 0 rfl ?_
  refine z_callVW (pc := 1) (q0 := 0) (ci := 8) (rest := []) F (c_X8_see l E r S tp sx p ac op cd nm ht (by omega)) 0 ww_Model_180 (by decide +kernel) rfl ⟨Nat.le_of_ble_eq_true rfl, Nat.le_of_ble_eq_true rfl⟩ ⟨Nat.le_of_ble_eq_true rfl, Nat.le_of_ble_eq_true rfl⟩ rfl rfl rfl rfl (Nat.le_of_ble_eq_true rfl) dX8_want_1 (fun v_ w1_ hp => ?_)
  obtain ⟨rfl, rfl⟩ := hp
  show Z X (0) (0) (mw E r (mps S (nI p) ac op cd nm)) [(0, .ref (r 0)), (1, .int (nI ch))] 4 [.int (nI (sx p))]
  refine z_iload_n (pc := 4) F dX8_want_4 rfl 1 rfl ?_
  refine z_icmp_eq (pc := 5) (tgt := 10) F dX8_want_5 (by decide) (fun c5 => absurd c5 (fun h => hc (nIe (by have := hsx p; omega) hch h))) (fun c5 => ?_)
  refine z_iconst (pc := 8) (v := 0) F dX8_want_8 (by decide) ?_
  exact z_zret (pc := 9) F hR rfl dX8_want_9 (Nat.le_of_ble_eq_true rfl) (Nat.le_of_ble_eq_true rfl) ⟨rfl, rfl⟩
set_option maxHeartbeats 4000000 in
set_option maxRecDepth 100000 in
theorem c_X8_open_y (l : Launch) (E : zE) (r : Nat → Nat) (S : zS) (p : Nat) (ac : Int32) (op : Nat) (cd : Nat → Int32) (nm : Nat → Int32) (ho : op < 12) : Ct l yX8_open cX8_open 1 (some .boolean) ({ frames := 0, cells := 0, slots := 0, locals := 0 } : Room) E (mw E r (mps S (nI p) ac (nI op) cd nm)) [.ref (r 0)] (fun v_ w_ => v_ = some (.int (bI true)) ∧ w_ = mw E r (mps S (nI (p + 1)) ac (nI (op + 1)) cd nm)) := by
  refine Ct.of (by decide) (Nat.le_of_ble_eq_true rfl) (lv := [(0, .ref (r 0))]) rfl ?_
  intro X F hR
  have F : zF X l ({ frames := 0, cells := 0, slots := 0, locals := 0 } : Room) E cX8_open 1 "LiveQueriesModel" := F
  refine z_aload_n (pc := 0) F dX8_open_0 rfl 0 rfl ?_
  refine z_get (pc := 1) (v := .int (nI op)) F iX8 0 rfl rfl 37 (by decide) tw_895 rfl dX8_open_1 ?_
  refine z_bipush (pc := 4) (v := 12) F dX8_open_4 (by decide) ?_
  refine z_icmp_ne (pc := 6) (tgt := 11) F dX8_open_6 (by decide) (fun c6 => ?_) (fun c6 => absurd c6 (fun h => absurd (nIe (b := 12) (by omega) (by decide) h) (by omega)))
  refine z_aload_n (pc := 11) F dX8_open_11 rfl 0 rfl ?_
  refine z_dup (pc := 12) F dX8_open_12 rfl ?_
  refine z_get (pc := 13) (v := .int (nI op)) F iX8 0 rfl rfl 37 (by decide) tw_895 rfl dX8_open_13 ?_
  refine z_iconst (pc := 16) (v := 1) F dX8_open_16 (by decide) ?_
  refine z_iadd (pc := 17) F dX8_open_17 ?_
  rw [show ((nI op) + 1) = nI (op + 1) from (nI_1 _)]
  refine z_put (pc := 18) (ws' := mw E r (mps S (nI p) ac (nI (op + 1)) cd nm)) F iX8 tyX8 tyX8_ok nmX8 0 rfl rfl 37 (by decide) tw_895 rfl rfl rfl (Nat.le_of_ble_eq_true rfl) dX8_open_18 rfl ?_
  refine z_aload_n (pc := 21) F dX8_open_21 rfl 0 rfl ?_
  refine z_dup (pc := 22) F dX8_open_22 rfl ?_
  refine z_get (pc := 23) (v := .int (nI p)) F iX8 0 rfl rfl 35 (by decide) tw_893 rfl dX8_open_23 ?_
  refine z_iconst (pc := 26) (v := 1) F dX8_open_26 (by decide) ?_
  refine z_iadd (pc := 27) F dX8_open_27 ?_
  rw [show ((nI p) + 1) = nI (p + 1) from (nI_1 _)]
  refine z_put (pc := 28) (ws' := mw E r (mps S (nI (p + 1)) ac (nI (op + 1)) cd nm)) F iX8 tyX8 tyX8_ok nmX8 0 rfl rfl 35 (by decide) tw_893 rfl rfl rfl (Nat.le_of_ble_eq_true rfl) dX8_open_28 rfl ?_
  refine z_iconst (pc := 31) (v := 1) F dX8_open_31 (by decide) ?_
  exact z_zret (pc := 32) F hR rfl dX8_open_32 (Nat.le_of_ble_eq_true rfl) (Nat.le_of_ble_eq_true rfl) ⟨rfl, rfl⟩
set_option maxHeartbeats 4000000 in
set_option maxRecDepth 100000 in
theorem c_X8_open_n (l : Launch) (E : zE) (r : Nat → Nat) (S : zS) (p : Nat) (ac : Int32) (cd : Nat → Int32) (nm : Nat → Int32) : Ct l yX8_open cX8_open 1 (some .boolean) ({ frames := 0, cells := 0, slots := 0, locals := 0 } : Room) E (mw E r (mps S (nI p) ac (nI 12) cd nm)) [.ref (r 0)] (fun v_ w_ => v_ = some (.int (bI false)) ∧ w_ = mw E r (mps S (nI p) ac (nI 12) cd nm)) := by
  refine Ct.of (by decide) (Nat.le_of_ble_eq_true rfl) (lv := [(0, .ref (r 0))]) rfl ?_
  intro X F hR
  have F : zF X l ({ frames := 0, cells := 0, slots := 0, locals := 0 } : Room) E cX8_open 1 "LiveQueriesModel" := F
  refine z_aload_n (pc := 0) F dX8_open_0 rfl 0 rfl ?_
  refine z_get (pc := 1) (v := .int (nI 12)) F iX8 0 rfl rfl 37 (by decide) tw_895 rfl dX8_open_1 ?_
  refine z_bipush (pc := 4) (v := 12) F dX8_open_4 (by decide) ?_
  refine z_icmp_ne (pc := 6) (tgt := 11) F dX8_open_6 (by decide) (fun h => absurd h (by decide)) (fun _ => ?_)
  refine z_iconst (pc := 9) (v := 0) F dX8_open_9 (by decide) ?_
  exact z_zret (pc := 10) F hR rfl dX8_open_10 (Nat.le_of_ble_eq_true rfl) (Nat.le_of_ble_eq_true rfl) ⟨rfl, rfl⟩
set_option maxHeartbeats 4000000 in
set_option maxRecDepth 100000 in
theorem c_X8_close_y (l : Launch) (E : zE) (r : Nat → Nat) (S : zS) (tp : Nat) (sx : Nat → Nat) (p : Nat) (ac : Int32) (op : Nat) (cd : Nat → Int32) (nm : Nat → Int32) (ch : Nat) (ht : tpo S tp sx) (hp : p ≤ tp) (hch : ch < 2 ^ 31) (hc : sx p = ch) : Ct l yX8_close cX8_close 2 (some .boolean) ({ frames := 2, cells := 0, slots := 0, locals := 41 } : Room) E (mw E r (mps S (nI p) ac (nI (op + 1)) cd nm)) [.ref (r 0), .int (nI ch)] (fun v_ w_ => v_ = some (.int (bI true)) ∧ w_ = mw E r (mps S (nI (p + 1)) ac (nI op) cd nm)) := by
  refine Ct.of (by decide) (Nat.le_of_ble_eq_true rfl) (lv := [(0, .ref (r 0)), (1, .int (nI ch))]) rfl ?_
  intro X F hR
  have F : zF X l ({ frames := 2, cells := 0, slots := 0, locals := 41 } : Room) E cX8_close 2 "LiveQueriesModel" := F
  refine z_aload_n (pc := 0) F dX8_close_0 rfl 0 rfl ?_
  refine z_iload_n (pc := 1) F dX8_close_1 rfl 1 rfl ?_
  refine z_callVW (pc := 2) (q0 := 0) (ci := 8) (rest := []) F (c_X8_want_y l E r S tp sx p ac (nI (op + 1)) cd nm ch ht hp hch hc) 1 ww_Model_189 (by decide +kernel) rfl ⟨Nat.le_of_ble_eq_true rfl, Nat.le_of_ble_eq_true rfl⟩ ⟨Nat.le_of_ble_eq_true rfl, Nat.le_of_ble_eq_true rfl⟩ rfl rfl rfl rfl (Nat.le_of_ble_eq_true rfl) dX8_close_2 (fun v_ w1_ hp => ?_)
  obtain ⟨rfl, rfl⟩ := hp
  show Z X (0) (0) (mw E r (mps S (nI (p + 1)) ac (nI (op + 1)) cd nm)) [(0, .ref (r 0)), (1, .int (nI ch))] 5 [.int (bI true)]
  rw [show (bI true) = 1 from rfl]
  refine z_if_ne (pc := 5) (tgt := 10) F dX8_close_5 (by decide) (fun _ => ?_) (fun h => absurd h (by decide))
  refine z_aload_n (pc := 10) F dX8_close_10 rfl 0 rfl ?_
  refine z_dup (pc := 11) F dX8_close_11 rfl ?_
  refine z_get (pc := 12) (v := .int (nI (op + 1))) F iX8 0 rfl rfl 37 (by decide) tw_895 rfl dX8_close_12 ?_
  refine z_iconst (pc := 15) (v := 1) F dX8_close_15 (by decide) ?_
  refine z_isub (pc := 16) F dX8_close_16 ?_
  rw [show ((nI (op + 1)) - 1) = nI op from (nI_pred _)]
  refine z_put (pc := 17) (ws' := mw E r (mps S (nI (p + 1)) ac (nI op) cd nm)) F iX8 tyX8 tyX8_ok nmX8 0 rfl rfl 37 (by decide) tw_895 rfl rfl rfl (Nat.le_of_ble_eq_true rfl) dX8_close_17 rfl ?_
  refine z_iconst (pc := 20) (v := 1) F dX8_close_20 (by decide) ?_
  exact z_zret (pc := 21) F hR rfl dX8_close_21 (Nat.le_of_ble_eq_true rfl) (Nat.le_of_ble_eq_true rfl) ⟨rfl, rfl⟩
set_option maxHeartbeats 4000000 in
set_option maxRecDepth 100000 in
theorem c_X8_close_n (l : Launch) (E : zE) (r : Nat → Nat) (S : zS) (tp : Nat) (sx : Nat → Nat) (p : Nat) (ac : Int32) (op : Int32) (cd : Nat → Int32) (nm : Nat → Int32) (ch : Nat) (ht : tpo S tp sx) (hp : p ≤ tp) (hch : ch < 2 ^ 31) (hc : ¬ sx p = ch) : Ct l yX8_close cX8_close 2 (some .boolean) ({ frames := 2, cells := 0, slots := 0, locals := 41 } : Room) E (mw E r (mps S (nI p) ac op cd nm)) [.ref (r 0), .int (nI ch)] (fun v_ w_ => v_ = some (.int (bI false)) ∧ w_ = mw E r (mps S (nI p) ac op cd nm)) := by
  refine Ct.of (by decide) (Nat.le_of_ble_eq_true rfl) (lv := [(0, .ref (r 0)), (1, .int (nI ch))]) rfl ?_
  intro X F hR
  have F : zF X l ({ frames := 2, cells := 0, slots := 0, locals := 41 } : Room) E cX8_close 2 "LiveQueriesModel" := F
  refine z_aload_n (pc := 0) F dX8_close_0 rfl 0 rfl ?_
  refine z_iload_n (pc := 1) F dX8_close_1 rfl 1 rfl ?_
  refine z_callVW (pc := 2) (q0 := 0) (ci := 8) (rest := []) F (c_X8_want_n l E r S tp sx p ac op cd nm ch ht hp hch hc) 1 ww_Model_189 (by decide +kernel) rfl ⟨Nat.le_of_ble_eq_true rfl, Nat.le_of_ble_eq_true rfl⟩ ⟨Nat.le_of_ble_eq_true rfl, Nat.le_of_ble_eq_true rfl⟩ rfl rfl rfl rfl (Nat.le_of_ble_eq_true rfl) dX8_close_2 (fun v_ w1_ hp => ?_)
  obtain ⟨rfl, rfl⟩ := hp
  show Z X (0) (0) (mw E r (mps S (nI p) ac op cd nm)) [(0, .ref (r 0)), (1, .int (nI ch))] 5 [.int (bI false)]
  rw [show (bI false) = 0 from rfl]
  refine z_if_ne (pc := 5) (tgt := 10) F dX8_close_5 (by decide) (fun h => absurd h (by decide)) (fun _ => ?_)
  refine z_iconst (pc := 8) (v := 0) F dX8_close_8 (by decide) ?_
  exact z_zret (pc := 9) F hR rfl dX8_close_9 (Nat.le_of_ble_eq_true rfl) (Nat.le_of_ble_eq_true rfl) ⟨rfl, rfl⟩
set_option maxHeartbeats 4000000 in
set_option maxRecDepth 100000 in
theorem c_X8_lay (l : Launch) (E : zE) (r : Nat → Nat) (S : zS) (p : Nat) (op : Int32) (cd : Nat → Int32) (nm : Nat → Int32) (nq : Nat) (a : Nat) (o : Nat) (v : Nat) (hn6 : nq < 6) (hn3 : zi S 3 = nI nq) (ha : a < 240) : Ct l yX8_lay cX8_lay 3 (none) ({ frames := 0, cells := 0, slots := 0, locals := 0 } : Room) E (mw E r (mps S (nI p) (nI a) op cd nm)) [.ref (r 0), .int (nI o), .int (nI v)] (fun v_ w_ => v_ = none ∧ w_ = mw E r (mps S (nI p) (nI (a + 1)) op (upd cd (240 * nq + a) (nI o)) (upd nm (240 * nq + a) (nI v)))) := by
  refine Ct.of (by decide) (Nat.le_of_ble_eq_true rfl) (lv := [(0, .ref (r 0)), (1, .int (nI o)), (2, .int (nI v))]) rfl ?_
  intro X F hR
  have F : zF X l ({ frames := 0, cells := 0, slots := 0, locals := 0 } : Room) E cX8_lay 3 "LiveQueriesModel" := F
  refine z_aload_n (pc := 0) F dX8_lay_0 rfl 0 rfl ?_
  refine z_get (pc := 1) (v := .ref (r 11)) F iX8 0 rfl rfl 14 (by decide) tw_872 rfl dX8_lay_1 ?_
  refine z_sipush (pc := 4) (v := 240) F dX8_lay_4 (by decide) ?_
  refine z_aload_n (pc := 7) F dX8_lay_7 rfl 0 rfl ?_
  refine z_get (pc := 8) (v := .int (zi S 3)) F iX8 0 rfl rfl 10 (by decide) tw_868 rfl dX8_lay_8 ?_
  rw [show (zi S 3) = nI nq from hn3]
  refine z_imul (pc := 11) F dX8_lay_11 ?_
  refine z_aload_n (pc := 12) F dX8_lay_12 rfl 0 rfl ?_
  refine z_get (pc := 13) (v := .int (nI a)) F iX8 0 rfl rfl 36 (by decide) tw_894 rfl dX8_lay_13 ?_
  refine z_iadd (pc := 16) F dX8_lay_16 ?_
  refine z_iload_n (pc := 17) F dX8_lay_17 rfl 1 rfl ?_
  refine z_iastN (pc := 18) (ws' := mw E r (mps S (nI p) (nI a) op (upd cd (240 * nq + a) (nI o)) nm)) (f := cd) F 11 0 rfl rfl (240 * nq + a) (ix240 nq a) (by omega) (by decide) dX8_lay_18 rfl ?_
  refine z_aload_n (pc := 19) F dX8_lay_19 rfl 0 rfl ?_
  refine z_get (pc := 20) (v := .ref (r 12)) F iX8 0 rfl rfl 15 (by decide) tw_873 rfl dX8_lay_20 ?_
  refine z_sipush (pc := 23) (v := 240) F dX8_lay_23 (by decide) ?_
  refine z_aload_n (pc := 26) F dX8_lay_26 rfl 0 rfl ?_
  refine z_get (pc := 27) (v := .int (zi S 3)) F iX8 0 rfl rfl 10 (by decide) tw_868 rfl dX8_lay_27 ?_
  rw [show (zi S 3) = nI nq from hn3]
  refine z_imul (pc := 30) F dX8_lay_30 ?_
  refine z_aload_n (pc := 31) F dX8_lay_31 rfl 0 rfl ?_
  refine z_get (pc := 32) (v := .int (nI a)) F iX8 0 rfl rfl 36 (by decide) tw_894 rfl dX8_lay_32 ?_
  refine z_iadd (pc := 35) F dX8_lay_35 ?_
  refine z_iload_n (pc := 36) F dX8_lay_36 rfl 2 rfl ?_
  refine z_iastN (pc := 37) (ws' := mw E r (mps S (nI p) (nI a) op (upd cd (240 * nq + a) (nI o)) (upd nm (240 * nq + a) (nI v)))) (f := nm) F 12 0 rfl rfl (240 * nq + a) (ix240 nq a) (by omega) (by decide) dX8_lay_37 rfl ?_
  refine z_aload_n (pc := 38) F dX8_lay_38 rfl 0 rfl ?_
  refine z_dup (pc := 39) F dX8_lay_39 rfl ?_
  refine z_get (pc := 40) (v := .int (nI a)) F iX8 0 rfl rfl 36 (by decide) tw_894 rfl dX8_lay_40 ?_
  refine z_iconst (pc := 43) (v := 1) F dX8_lay_43 (by decide) ?_
  refine z_iadd (pc := 44) F dX8_lay_44 ?_
  rw [show ((nI a) + 1) = nI (a + 1) from (nI_1 _)]
  refine z_put (pc := 45) (ws' := mw E r (mps S (nI p) (nI (a + 1)) op (upd cd (240 * nq + a) (nI o)) (upd nm (240 * nq + a) (nI v)))) F iX8 tyX8 tyX8_ok nmX8 0 rfl rfl 36 (by decide) tw_894 rfl rfl rfl (Nat.le_of_ble_eq_true rfl) dX8_lay_45 rfl ?_
  exact z_vret (pc := 48) F hR dX8_lay_48 (Nat.le_of_ble_eq_true rfl) (Nat.le_of_ble_eq_true rfl) ⟨rfl, rfl⟩
set_option maxHeartbeats 4000000 in
set_option maxRecDepth 100000 in
theorem c_X8_isDigit (l : Launch) (E : zE) (r : Nat → Nat) (S : zS) (tp : Nat) (sx : Nat → Nat) (p : Nat) (ac : Int32) (op : Int32) (cd : Nat → Int32) (nm : Nat → Int32) (ht : tpo S tp sx) (hp : p ≤ tp) : Ct l yX8_isDigit cX8_isDigit 1 (some .boolean) ({ frames := 1, cells := 0, slots := 0, locals := 20 } : Room) E (mw E r (mps S (nI p) ac op cd nm)) [.ref (r 0)] (fun v_ w_ => v_ = some (.int (bI (isD (sx p)))) ∧ w_ = mw E r (mps S (nI p) ac op cd nm)) := by
  refine Ct.of (by decide) (Nat.le_of_ble_eq_true rfl) (lv := [(0, .ref (r 0))]) rfl ?_
  intro X F hR
  have F : zF X l ({ frames := 1, cells := 0, slots := 0, locals := 20 } : Room) E cX8_isDigit 1 "LiveQueriesModel" := F
  have htp := ht.2.1
  have hsx := ht.2.2.2.2
  have hsp := hsx p
  refine z_aload_n (pc := 0) F dX8_isDigit_0 rfl 0 rfl ?_
  refine z_callVW (pc := 1) (q0 := 0) (ci := 8) (rest := []) F (c_X8_see l E r S tp sx p ac op cd nm ht (by omega)) 0 ww_Model_180 (by decide +kernel) rfl ⟨Nat.le_of_ble_eq_true rfl, Nat.le_of_ble_eq_true rfl⟩ ⟨Nat.le_of_ble_eq_true rfl, Nat.le_of_ble_eq_true rfl⟩ rfl rfl rfl rfl (Nat.le_of_ble_eq_true rfl) dX8_isDigit_1 (fun v_ w1_ hp => ?_)
  obtain ⟨rfl, rfl⟩ := hp
  show Z X (0) (0) (mw E r (mps S (nI p) ac op cd nm)) [(0, .ref (r 0))] 4 [.int (nI (sx p))]
  refine z_bipush (pc := 4) (v := 48) F dX8_isDigit_4 (by decide) ?_
  refine z_icmp_lt (pc := 6) (tgt := 22) F dX8_isDigit_6 (by decide) (fun c6 => ?_) (fun c6 => ?_)
  · have k6 := (nI_ltI (b := 48) (by omega) (by decide)).mp c6
    refine z_iconst (pc := 22) (v := 0) F dX8_isDigit_22 (by decide) ?_
    exact z_zret (pc := 23) F hR rfl dX8_isDigit_23 (Nat.le_of_ble_eq_true rfl) (Nat.le_of_ble_eq_true rfl) ⟨by rw [show isD (sx p) = false from decide_eq_false (by omega)]; rfl, rfl⟩
  · have k6 : ¬ sx p < 48 := fun h => c6 (nI_lt (b := 48) h (by decide))
    refine z_aload_n (pc := 9) F dX8_isDigit_9 rfl 0 rfl ?_
    refine z_callVW (pc := 10) (q0 := 0) (ci := 8) (rest := []) F (c_X8_see l E r S tp sx p ac op cd nm ht (by omega)) 0 ww_Model_180 (by decide +kernel) rfl ⟨Nat.le_of_ble_eq_true rfl, Nat.le_of_ble_eq_true rfl⟩ ⟨Nat.le_of_ble_eq_true rfl, Nat.le_of_ble_eq_true rfl⟩ rfl rfl rfl rfl (Nat.le_of_ble_eq_true rfl) dX8_isDigit_10 (fun v_ w1_ hp => ?_)
    obtain ⟨rfl, rfl⟩ := hp
    show Z X (0) (0) (mw E r (mps S (nI p) ac op cd nm)) [(0, .ref (r 0))] 13 [.int (nI (sx p))]
    refine z_bipush (pc := 13) (v := 57) F dX8_isDigit_13 (by decide) ?_
    refine z_icmp_gt (pc := 15) (tgt := 22) F dX8_isDigit_15 (by decide) (fun c15 => ?_) (fun c15 => ?_)
    · have k15 := (nI_ltI (a := 57) (by decide) (by omega)).mp c15
      refine z_iconst (pc := 22) (v := 0) F dX8_isDigit_22 (by decide) ?_
      exact z_zret (pc := 23) F hR rfl dX8_isDigit_23 (Nat.le_of_ble_eq_true rfl) (Nat.le_of_ble_eq_true rfl) ⟨by rw [show isD (sx p) = false from decide_eq_false (by omega)]; rfl, rfl⟩
    · have k15 : ¬ 57 < sx p := fun h => c15 (nI_lt (a := 57) h (by omega))
      refine z_iconst (pc := 18) (v := 1) F dX8_isDigit_18 (by decide) ?_
      refine z_goto (pc := 19) (tgt := 23) F dX8_isDigit_19 (by decide) ?_
      exact z_zret (pc := 23) F hR rfl dX8_isDigit_23 (Nat.le_of_ble_eq_true rfl) (Nat.le_of_ble_eq_true rfl) ⟨by rw [show isD (sx p) = true from decide_eq_true (by omega)]; rfl, rfl⟩
set_option maxHeartbeats 4000000 in
set_option maxRecDepth 100000 in
theorem c_X8_readNumber (l : Launch) (E : zE) (r : Nat → Nat) (S : zS) (tp : Nat) (sx : Nat → Nat) (p : Nat) (op : Int32) (cd : Nat → Int32) (nm : Nat → Int32) (nq : Nat) (a : Nat) (ht : tpo S tp sx) (hp : p ≤ tp) (hn6 : nq < 6) (hn3 : zi S 3 = nI nq) (ha : a < 240) : Ct l yX8_readNumber cX8_readNumber 3 (some .boolean) ({ frames := 2, cells := 0, slots := 0, locals := 41 } : Room) E (mw E r (mps S (nI p) (nI a) op cd nm)) [.ref (r 0)] (fun v_ w_ => v_ = some (.int (bI (!isD (sx (dgs sx 9 p 0).1)))) ∧ w_ = mw E r (mps S (nI (dgs sx 9 p 0).1) (nI (a + 1)) op (upd cd (240 * nq + a) (nI 0)) (upd nm (240 * nq + a) (nI (dgs sx 9 p 0).2)))) := by
  refine Ct.of (by decide) (Nat.le_of_ble_eq_true rfl) (lv := [(0, .ref (r 0))]) rfl ?_
  intro X F hR
  have F : zF X l ({ frames := 2, cells := 0, slots := 0, locals := 41 } : Room) E cX8_readNumber 3 "LiveQueriesModel" := F
  have htp := ht.2.1
  have hsx := ht.2.2.2.2
  have h0 := ht.2.2.2.1
  refine z_iconst (pc := 0) (v := 0) F dX8_readNumber_0 (by decide) ?_
  refine z_istore_n (pc := 1) (lv' := [(0, .ref (r 0)), (1, .int 0)]) F dX8_readNumber_1 rfl (by decide) [1, 0] rfl ?_
  refine z_iconst (pc := 2) (v := 0) F dX8_readNumber_2 (by decide) ?_
  refine z_istore_n (pc := 3) (lv' := [(0, .ref (r 0)), (1, .int 0), (2, .int 0)]) F dX8_readNumber_3 rfl (by decide) [1, 2, 0] rfl ?_
  have L4 : ∀ (N : Nat) (k : Nat) (p' : Nat) (v : Nat), (9 - k) < N → (k ≤ 9) → (p' ≤ tp) → (dgs sx (9 - k) p' v = (dgs sx 9 p 0)) → Z X (0) (0) (mw E r (mps S (nI p') (nI a) op cd nm)) [(0, .ref (r 0)), (1, .int (nI k)), (2, .int (nI v))] 4 [] := by
    intro N
    induction N with
    | zero => intro k p' v hN; exact absurd hN (Nat.not_lt_zero _)
    | succ N ih4 =>
      intro k p' v hN hk hpp hdg
      refine z_aload_n (pc := 4) F dX8_readNumber_4 rfl 0 rfl ?_
      refine z_callVW (pc := 5) (q0 := 0) (ci := 8) (rest := []) F (c_X8_isDigit l E r S tp sx p' (nI a) op cd nm ht hpp) 0 ww_Model_192 (by decide +kernel) rfl ⟨Nat.le_of_ble_eq_true rfl, Nat.le_of_ble_eq_true rfl⟩ ⟨Nat.le_of_ble_eq_true rfl, Nat.le_of_ble_eq_true rfl⟩ rfl rfl rfl rfl (Nat.le_of_ble_eq_true rfl) dX8_readNumber_5 (fun v_ w1_ hp => ?_)
      obtain ⟨rfl, rfl⟩ := hp
      show Z X (0) (0) (mw E r (mps S (nI p') (nI a) op cd nm)) [(0, .ref (r 0)), (1, .int (nI k)), (2, .int (nI v))] 8 [.int (bI (isD (sx p')))]
      refine z_if_eq (pc := 8) (tgt := 46) F dX8_readNumber_8 (by decide) (fun c8 => ?_) (fun c8 => ?_)
      · replace c8 := bI_f c8
        rw [dgs_stop c8] at hdg
        refine z_aload_n (pc := 46) F dX8_readNumber_46 rfl 0 rfl ?_
        refine z_iconst (pc := 47) (v := 0) F dX8_readNumber_47 (by decide) ?_
        refine z_iload_n (pc := 48) F dX8_readNumber_48 rfl 2 rfl ?_
        refine z_callVW (pc := 49) (q0 := 0) (ci := 8) (rest := []) F (c_X8_lay l E r S p' op cd nm nq a 0 v hn6 hn3 ha) 2 ww_Model_196 (by decide +kernel) rfl ⟨Nat.le_of_ble_eq_true rfl, Nat.le_of_ble_eq_true rfl⟩ ⟨Nat.le_of_ble_eq_true rfl, Nat.le_of_ble_eq_true rfl⟩ rfl rfl rfl rfl (Nat.le_of_ble_eq_true rfl) dX8_readNumber_49 (fun v_ w1_ hp => ?_)
        obtain ⟨rfl, rfl⟩ := hp
        show Z X (0) (0) (mw E r (mps S (nI p') (nI (a + 1)) op (upd cd (240 * nq + a) (nI 0)) (upd nm (240 * nq + a) (nI v)))) [(0, .ref (r 0)), (1, .int (nI k)), (2, .int (nI v))] 52 []
        refine z_aload_n (pc := 52) F dX8_readNumber_52 rfl 0 rfl ?_
        refine z_callVW (pc := 53) (q0 := 0) (ci := 8) (rest := []) F (c_X8_isDigit l E r S tp sx p' (nI (a + 1)) op (upd cd (240 * nq + a) (nI 0)) (upd nm (240 * nq + a) (nI v)) ht hpp) 0 ww_Model_192 (by decide +kernel) rfl ⟨Nat.le_of_ble_eq_true rfl, Nat.le_of_ble_eq_true rfl⟩ ⟨Nat.le_of_ble_eq_true rfl, Nat.le_of_ble_eq_true rfl⟩ rfl rfl rfl rfl (Nat.le_of_ble_eq_true rfl) dX8_readNumber_53 (fun v_ w1_ hp => ?_)
        obtain ⟨rfl, rfl⟩ := hp
        show Z X (0) (0) (mw E r (mps S (nI p') (nI (a + 1)) op (upd cd (240 * nq + a) (nI 0)) (upd nm (240 * nq + a) (nI v)))) [(0, .ref (r 0)), (1, .int (nI k)), (2, .int (nI v))] 56 [.int (bI (isD (sx p')))]
        refine z_if_ne (pc := 56) (tgt := 63) F dX8_readNumber_56 (by decide) (fun c56 => ?_) (fun c56 => ?_)
        · replace c56 := bI_t c56
          refine z_iconst (pc := 63) (v := 0) F dX8_readNumber_63 (by decide) ?_
          exact z_zret (pc := 64) F hR rfl dX8_readNumber_64 (Nat.le_of_ble_eq_true rfl) (Nat.le_of_ble_eq_true rfl) ⟨by rw [← hdg]; exact (by rw [show isD (sx p') = true from c56]; rfl), by rw [← hdg]⟩
        · replace c56 := bI_f c56
          refine z_iconst (pc := 59) (v := 1) F dX8_readNumber_59 (by decide) ?_
          refine z_goto (pc := 60) (tgt := 64) F dX8_readNumber_60 (by decide) ?_
          exact z_zret (pc := 64) F hR rfl dX8_readNumber_64 (Nat.le_of_ble_eq_true rfl) (Nat.le_of_ble_eq_true rfl) ⟨by rw [← hdg]; exact (by rw [show isD (sx p') = false from c56]; rfl), by rw [← hdg]⟩
      · replace c8 := bI_t c8
        have hd8 := isD_t c8
        have hlt : p' < tp := sx_lt h0 (by omega)
        refine z_iload_n (pc := 11) F dX8_readNumber_11 rfl 1 rfl ?_
        refine z_bipush (pc := 12) (v := 9) F dX8_readNumber_12 (by decide) ?_
        refine z_icmp_ge (pc := 14) (tgt := 46) F dX8_readNumber_14 (by decide) (fun c14 => ?_) (fun c14 => ?_)
        · have hk9 : k = 9 := Nat.le_antisymm hk (gI (a := 9) (by decide) (by omega) c14)
          subst hk9
          rw [show dgs sx (9 - 9) p' v = (p', v) from rfl] at hdg
          refine z_aload_n (pc := 46) F dX8_readNumber_46 rfl 0 rfl ?_
          refine z_iconst (pc := 47) (v := 0) F dX8_readNumber_47 (by decide) ?_
          refine z_iload_n (pc := 48) F dX8_readNumber_48 rfl 2 rfl ?_
          refine z_callVW (pc := 49) (q0 := 0) (ci := 8) (rest := []) F (c_X8_lay l E r S p' op cd nm nq a 0 v hn6 hn3 ha) 2 ww_Model_196 (by decide +kernel) rfl ⟨Nat.le_of_ble_eq_true rfl, Nat.le_of_ble_eq_true rfl⟩ ⟨Nat.le_of_ble_eq_true rfl, Nat.le_of_ble_eq_true rfl⟩ rfl rfl rfl rfl (Nat.le_of_ble_eq_true rfl) dX8_readNumber_49 (fun v_ w1_ hp => ?_)
          obtain ⟨rfl, rfl⟩ := hp
          show Z X (0) (0) (mw E r (mps S (nI p') (nI (a + 1)) op (upd cd (240 * nq + a) (nI 0)) (upd nm (240 * nq + a) (nI v)))) [(0, .ref (r 0)), (1, .int (nI 9)), (2, .int (nI v))] 52 []
          refine z_aload_n (pc := 52) F dX8_readNumber_52 rfl 0 rfl ?_
          refine z_callVW (pc := 53) (q0 := 0) (ci := 8) (rest := []) F (c_X8_isDigit l E r S tp sx p' (nI (a + 1)) op (upd cd (240 * nq + a) (nI 0)) (upd nm (240 * nq + a) (nI v)) ht hpp) 0 ww_Model_192 (by decide +kernel) rfl ⟨Nat.le_of_ble_eq_true rfl, Nat.le_of_ble_eq_true rfl⟩ ⟨Nat.le_of_ble_eq_true rfl, Nat.le_of_ble_eq_true rfl⟩ rfl rfl rfl rfl (Nat.le_of_ble_eq_true rfl) dX8_readNumber_53 (fun v_ w1_ hp => ?_)
          obtain ⟨rfl, rfl⟩ := hp
          show Z X (0) (0) (mw E r (mps S (nI p') (nI (a + 1)) op (upd cd (240 * nq + a) (nI 0)) (upd nm (240 * nq + a) (nI v)))) [(0, .ref (r 0)), (1, .int (nI 9)), (2, .int (nI v))] 56 [.int (bI (isD (sx p')))]
          refine z_if_ne (pc := 56) (tgt := 63) F dX8_readNumber_56 (by decide) (fun c56 => ?_) (fun c56 => ?_)
          · replace c56 := bI_t c56
            refine z_iconst (pc := 63) (v := 0) F dX8_readNumber_63 (by decide) ?_
            exact z_zret (pc := 64) F hR rfl dX8_readNumber_64 (Nat.le_of_ble_eq_true rfl) (Nat.le_of_ble_eq_true rfl) ⟨by rw [← hdg]; exact (by rw [show isD (sx p') = true from c56]; rfl), by rw [← hdg]⟩
          · replace c56 := bI_f c56
            refine z_iconst (pc := 59) (v := 1) F dX8_readNumber_59 (by decide) ?_
            refine z_goto (pc := 60) (tgt := 64) F dX8_readNumber_60 (by decide) ?_
            exact z_zret (pc := 64) F hR rfl dX8_readNumber_64 (Nat.le_of_ble_eq_true rfl) (Nat.le_of_ble_eq_true rfl) ⟨by rw [← hdg]; exact (by rw [show isD (sx p') = false from c56]; rfl), by rw [← hdg]⟩
        · have hk9 := ngI (a := 9) (by decide) (by omega) c14
          rw [dgs_go c8 hk9] at hdg
          refine z_bipush (pc := 17) (v := 10) F dX8_readNumber_17 (by decide) ?_
          refine z_iload_n (pc := 19) F dX8_readNumber_19 rfl 2 rfl ?_
          refine z_imul (pc := 20) F dX8_readNumber_20 ?_
          refine z_aload_n (pc := 21) F dX8_readNumber_21 rfl 0 rfl ?_
          refine z_callVW (pc := 22) (q0 := 0) (ci := 8) (rest := [.int (10 * (nI v))]) F (c_X8_see l E r S tp sx p' (nI a) op cd nm ht hpp) 0 ww_Model_180 (by decide +kernel) rfl ⟨Nat.le_of_ble_eq_true rfl, Nat.le_of_ble_eq_true rfl⟩ ⟨Nat.le_of_ble_eq_true rfl, Nat.le_of_ble_eq_true rfl⟩ rfl rfl rfl rfl (Nat.le_of_ble_eq_true rfl) dX8_readNumber_22 (fun v_ w1_ hp => ?_)
          obtain ⟨rfl, rfl⟩ := hp
          show Z X (0) (0) (mw E r (mps S (nI p') (nI a) op cd nm)) [(0, .ref (r 0)), (1, .int (nI k)), (2, .int (nI v))] 25 [.int (nI (sx p')), .int (10 * (nI v))]
          refine z_iadd (pc := 25) F dX8_readNumber_25 ?_
          refine z_bipush (pc := 26) (v := 48) F dX8_readNumber_26 (by decide) ?_
          refine z_isub (pc := 28) F dX8_readNumber_28 ?_
          rw [show (((10 * (nI v)) + (nI (sx p'))) - 48) = nI (10 * v + sx p' - 48) from (num10 hd8.1)]
          refine z_istore_n (pc := 29) (lv' := [(0, .ref (r 0)), (1, .int (nI k)), (2, .int (nI (10 * v + sx p' - 48)))]) F dX8_readNumber_29 rfl (by decide) [1, 2, 0] rfl ?_
          refine z_aload_n (pc := 30) F dX8_readNumber_30 rfl 0 rfl ?_
          refine z_dup (pc := 31) F dX8_readNumber_31 rfl ?_
          refine z_get (pc := 32) (v := .int (nI p')) F iX8 0 rfl rfl 35 (by decide) tw_893 rfl dX8_readNumber_32 ?_
          refine z_iconst (pc := 35) (v := 1) F dX8_readNumber_35 (by decide) ?_
          refine z_iadd (pc := 36) F dX8_readNumber_36 ?_
          rw [show ((nI p') + 1) = nI (p' + 1) from (nI_1 _)]
          refine z_put (pc := 37) (ws' := mw E r (mps S (nI (p' + 1)) (nI a) op cd nm)) F iX8 tyX8 tyX8_ok nmX8 0 rfl rfl 35 (by decide) tw_893 rfl rfl rfl (Nat.le_of_ble_eq_true rfl) dX8_readNumber_37 rfl ?_
          refine z_iinc (pc := 40) (v := nI (k + 1)) (lv' := [(0, .ref (r 0)), (1, .int (nI (k + 1))), (2, .int (nI (10 * v + sx p' - 48)))]) F (j := 1) dX8_readNumber_40 rfl (nI_1 _) (by decide) [1, 0, 2] rfl ?_
          refine z_goto (pc := 43) (tgt := 4) F dX8_readNumber_43 (by decide) ?_
          exact ih4 (k + 1) (p' + 1) _ (by omega) (by omega) (by omega) hdg
  exact L4 _ 0 p 0 (Nat.lt_succ_self _) (by decide) hp rfl

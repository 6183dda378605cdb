set_option maxHeartbeats 4000000 in
set_option maxRecDepth 100000 in
theorem c_X8_put_ok (l : Launch) (E : zE) (r : Nat → Nat) (S : zS) (m : Nat) (nq : Nat) (eq : Nat → Nat → Nat) (cq : Nat → Nat) (o : Nat) (p : Nat) (v : Int64) (hm : m ≤ 60) (hmo : zi S 2 = nI m) (hQ : QS S nq eq cq) (ho : objOk S) (hom : o < m) (hth : ¬ za S 2 o = 0) (hp : p < 3) : Ct l yX8_put cX8_put 5 (some .int) ({ frames := 6, cells := 0, slots := 0, locals := 170 } : Room) E (mw E r S) [.ref (r 0), .int (nI o), .int (nI p), .long v] (fun v_ w_ => ∃ hh : Int32, ∃ ab : Int32, ∃ f : Nat → Int64, ∃ hg : Nat → Int32, ∃ md : Nat → Int64, ∃ n : Int32, ∃ row : Nat → Int32, ∃ key : Nat → Int64, ∃ grp : Nat → Int64, ∃ sm : Nat → Int64, ∃ sh : Nat → Int32, ∃ nw : Nat → Int32, ∃ df : Nat → Int32, v_ = some (.int (nI (dfl (nBf S m eq cq) (nBf (zB (zI S 0 0) 4 (3 * o + p) v) m eq cq) nq).length)) ∧ w_ = mw E r (mse (zB (zI S 0 0) 4 (3 * o + p) v) hh ab f hg md n row key grp sm sh nw (nI (dfl (nBf S m eq cq) (nBf (zB (zI S 0 0) 4 (3 * o + p) v) m eq cq) nq).length) df) ∧ (dfR (dfl (nBf S m eq cq) (nBf (zB (zI S 0 0) 4 (3 * o + p) v) m eq cq) nq) df)) := by
  refine Ct.of (by decide) (Nat.le_of_ble_eq_true rfl) (lv := [(0, .ref (r 0)), (1, .int (nI o)), (2, .int (nI p)), (3, .long v)]) rfl ?_
  intro X F hR
  have F : zF X l ({ frames := 6, cells := 0, slots := 0, locals := 170 } : Room) E cX8_put 5 "LiveQueriesModel" := F
  refine z_aload_n (pc := 0) F dX8_put_0 rfl 0 rfl ?_
  refine z_iconst (pc := 1) (v := 0) F dX8_put_1 (by decide) ?_
  refine z_put (pc := 2) (ws' := mw E r (zI S 0 0)) F iX8 tyX8 tyX8_ok nmX8 0 rfl rfl 0 (by decide) tw_858 rfl rfl rfl (Nat.le_of_ble_eq_true rfl) dX8_put_2 rfl ?_
  refine z_aload_n (pc := 5) F dX8_put_5 rfl 0 rfl ?_
  refine z_iload_n (pc := 6) F dX8_put_6 rfl 1 rfl ?_
  refine z_callVW (pc := 7) (q0 := 0) (ci := 8) (rest := []) F (c_X8_isThere l E r (zI S 0 0) m (nI o) hm hmo) 1 ww_Model_168 (by decide +kernel) rfl ⟨Nat.le_of_ble_eq_true rfl, Nat.le_of_ble_eq_true rfl⟩ ⟨Nat.le_of_ble_eq_true rfl, Nat.le_of_ble_eq_true rfl⟩ rfl rfl rfl rfl (Nat.le_of_ble_eq_true rfl) dX8_put_7 (fun v_ w1_ hp => ?_)
  obtain ⟨rfl, rfl⟩ := hp
  show Z X (0) (0) (mw E r (zI S 0 0)) [(0, .ref (r 0)), (1, .int (nI o)), (2, .int (nI p)), (3, .long v)] 10 [.int (bI (thB m (za (zI S 0 0) 2) (nI o)))]
  rw [show (bI (thB m (za (zI S 0 0) 2) (nI o))) = 1 from (thB_1 (by omega) hom hth)]
  refine z_if_eq (pc := 10) (tgt := 22) F dX8_put_10 (by decide) (fun h => absurd h (by decide)) (fun _ => ?_)
  refine z_iload_n (pc := 13) F dX8_put_13 rfl 2 rfl ?_
  refine z_iconst (pc := 14) (v := 0) F dX8_put_14 (by decide) ?_
  refine z_iconst (pc := 15) (v := 2) F dX8_put_15 (by decide) ?_
  refine z_callS0 (pc := 16) (rest := []) F (c_X8_within l E (nI p) 0 2) 3 ww_Model_97 (by decide +kernel) rfl ⟨Nat.le_of_ble_eq_true rfl, Nat.le_of_ble_eq_true rfl⟩ ⟨Nat.le_of_ble_eq_true rfl, Nat.le_of_ble_eq_true rfl⟩ rfl (Nat.le_of_ble_eq_true rfl) dX8_put_16 (fun v_ w1_ hp => ?_)
  obtain ⟨rfl, rfl⟩ := hp
  show Z X (0) (0) (mw E r (zI S 0 0)) [(0, .ref (r 0)), (1, .int (nI o)), (2, .int (nI p)), (3, .long v)] 19 [.int (bI (decide (0 ≤ (nI p) ∧ (nI p) ≤ 2)))]
  rw [show (bI (decide (0 ≤ (nI p) ∧ (nI p) ≤ 2))) = 1 from (bwN (n := 2) (by omega) (by decide))]
  refine z_if_ne (pc := 19) (tgt := 24) F dX8_put_19 (by decide) (fun _ => ?_) (fun h => absurd h (by decide))
  refine z_aload_n (pc := 24) F dX8_put_24 rfl 0 rfl ?_
  refine z_callVW (pc := 25) (q0 := 0) (ci := 8) (rest := []) F (c_X8_keep l E r (zI S 0 0) m nq eq cq hm hmo (QS_of (S := S) (S' := (zI S 0 0)) rfl rfl rfl rfl hQ) ho) 0 ww_Model_162 (by decide +kernel) rfl ⟨Nat.le_of_ble_eq_true rfl, Nat.le_of_ble_eq_true rfl⟩ ⟨Nat.le_of_ble_eq_true rfl, Nat.le_of_ble_eq_true rfl⟩ rfl rfl rfl rfl (Nat.le_of_ble_eq_true rfl) dX8_put_25 (fun v_ w1_ hp => ?_)
  obtain ⟨hh0, ab0, f0, hg0, md0, n0, row0, key0, grp0, sm0, sh0, rfl, rfl, h25_0⟩ := hp
  show Z X (0) (0) (mw E r (mse (zI S 0 0) hh0 ab0 f0 hg0 md0 n0 row0 key0 grp0 sm0 sh0 (za (zI S 0 0) 26) (zi (zI S 0 0) 4) (za (zI S 0 0) 13))) [(0, .ref (r 0)), (1, .int (nI o)), (2, .int (nI p)), (3, .long v)] 28 []
  have hk : ∀ q : Nat, q < nq → okSh sh0 60 q (nBf S m eq cq q) := h25_0
  refine z_aload_n (pc := 28) F dX8_put_28 rfl 0 rfl ?_
  refine z_get (pc := 29) (v := .ref (r 4)) F iX8 0 rfl rfl 6 (by decide) tw_864 rfl dX8_put_29 ?_
  refine z_iconst (pc := 32) (v := 3) F dX8_put_32 (by decide) ?_
  refine z_iload_n (pc := 33) F dX8_put_33 rfl 1 rfl ?_
  refine z_imul (pc := 34) F dX8_put_34 ?_
  refine z_iload_n (pc := 35) F dX8_put_35 rfl 2 rfl ?_
  refine z_iadd (pc := 36) F dX8_put_36 ?_
  refine z_lload_n (pc := 37) F dX8_put_37 rfl 3 rfl ?_
  refine z_lastN (pc := 38) (ws' := mw E r (mse (zB (zI S 0 0) 4 (3 * o + p) v) hh0 ab0 f0 hg0 md0 n0 row0 key0 grp0 sm0 sh0 (za (zI S 0 0) 26) (zi (zI S 0 0) 4) (za (zI S 0 0) 13))) (f := zb S 4) F 4 1 rfl rfl (3 * o + p) ix3b (by omega) (by decide) dX8_put_38 rfl ?_
  refine z_aload_n (pc := 39) F dX8_put_39 rfl 0 rfl ?_
  refine z_callVW (pc := 40) (q0 := 0) (ci := 8) (rest := []) F (c_X8_settle l E r (mse (zB (zI S 0 0) 4 (3 * o + p) v) hh0 ab0 f0 hg0 md0 n0 row0 key0 grp0 sm0 sh0 (za (zI S 0 0) 26) (zi (zI S 0 0) 4) (za (zI S 0 0) 13)) m nq eq cq (nBf S m eq cq) hm hmo (QS_of (S := S) (S' := (mse (zB (zI S 0 0) 4 (3 * o + p) v) hh0 ab0 f0 hg0 md0 n0 row0 key0 grp0 sm0 sh0 (za (zI S 0 0) 26) (zi (zI S 0 0) 4) (za (zI S 0 0) 13))) rfl rfl rfl rfl hQ) ho hk) 0 ww_Model_165 (by decide +kernel) rfl ⟨Nat.le_of_ble_eq_true rfl, Nat.le_of_ble_eq_true rfl⟩ ⟨Nat.le_of_ble_eq_true rfl, Nat.le_of_ble_eq_true rfl⟩ rfl rfl rfl rfl (Nat.le_of_ble_eq_true rfl) dX8_put_40 (fun v_ w1_ hp => ?_)
  obtain ⟨hh2, ab2, f2, hg2, md2, n2, row2, key2, grp2, sm2, nw2, df2, rfl, rfl, h40_0⟩ := hp
  show Z X (0) (0) (mw E r (mse (zB (zI S 0 0) 4 (3 * o + p) v) hh2 ab2 f2 hg2 md2 n2 row2 key2 grp2 sm2 sh0 nw2 (nI (dfl (nBf S m eq cq) (nBf (zB (zI S 0 0) 4 (3 * o + p) v) m eq cq) nq).length) df2)) [(0, .ref (r 0)), (1, .int (nI o)), (2, .int (nI p)), (3, .long v)] 43 [.int (nI (dfl (nBf S m eq cq) (nBf (zB (zI S 0 0) 4 (3 * o + p) v) m eq cq) nq).length)]
  exact z_iret (pc := 43) F hR dX8_put_43 (Nat.le_of_ble_eq_true rfl) (Nat.le_of_ble_eq_true rfl) ⟨hh2, ab2, f2, hg2, md2, n2, row2, key2, grp2, sm2, sh0, nw2, df2, rfl, rfl, h40_0⟩
set_option maxHeartbeats 4000000 in
set_option maxRecDepth 100000 in
theorem c_X8_refer_n (l : Launch) (E : zE) (r : Nat → Nat) (S : zS) (m : Nat) (nq : Nat) (eq : Nat → Nat → Nat) (cq : Nat → Nat) (o : Nat) (hm : m ≤ 60) (hmo : zi S 2 = nI m) (hQ : QS S nq eq cq) (ho : objOk S) (hom : o < m) (hth : ¬ za S 2 o = 0) : Ct l yX8_refer cX8_refer 3 (some .int) ({ frames := 6, cells := 0, slots := 0, locals := 170 } : Room) E (mw E r S) [.ref (r 0), .int (nI o), .int (-1)] (fun v_ w_ => ∃ hh : Int32, ∃ ab : Int32, ∃ f : Nat → Int64, ∃ hg : Nat → Int32, ∃ md : Nat → Int64, ∃ n : Int32, ∃ row : Nat → Int32, ∃ key : Nat → Int64, ∃ grp : Nat → Int64, ∃ sm : Nat → Int64, ∃ sh : Nat → Int32, ∃ nw : Nat → Int32, ∃ df : Nat → Int32, v_ = some (.int (nI (dfl (nBf S m eq cq) (nBf (zA (zI S 0 0) 5 o (-1)) m eq cq) nq).length)) ∧ w_ = mw E r (mse (zA (zI S 0 0) 5 o (-1)) hh ab f hg md n row key grp sm sh nw (nI (dfl (nBf S m eq cq) (nBf (zA (zI S 0 0) 5 o (-1)) m eq cq) nq).length) df) ∧ (dfR (dfl (nBf S m eq cq) (nBf (zA (zI S 0 0) 5 o (-1)) m eq cq) nq) df)) := by
  refine Ct.of (by decide) (Nat.le_of_ble_eq_true rfl) (lv := [(0, .ref (r 0)), (1, .int (nI o)), (2, .int (-1))]) rfl ?_
  intro X F hR
  have F : zF X l ({ frames := 6, cells := 0, slots := 0, locals := 170 } : Room) E cX8_refer 3 "LiveQueriesModel" := F
  refine z_aload_n (pc := 0) F dX8_refer_0 rfl 0 rfl ?_
  refine z_iconst (pc := 1) (v := 0) F dX8_refer_1 (by decide) ?_
  refine z_put (pc := 2) (ws' := mw E r (zI S 0 0)) F iX8 tyX8 tyX8_ok nmX8 0 rfl rfl 0 (by decide) tw_858 rfl rfl rfl (Nat.le_of_ble_eq_true rfl) dX8_refer_2 rfl ?_
  refine z_aload_n (pc := 5) F dX8_refer_5 rfl 0 rfl ?_
  refine z_iload_n (pc := 6) F dX8_refer_6 rfl 1 rfl ?_
  refine z_callVW (pc := 7) (q0 := 0) (ci := 8) (rest := []) F (c_X8_isThere l E r (zI S 0 0) m (nI o) hm hmo) 1 ww_Model_168 (by decide +kernel) rfl ⟨Nat.le_of_ble_eq_true rfl, Nat.le_of_ble_eq_true rfl⟩ ⟨Nat.le_of_ble_eq_true rfl, Nat.le_of_ble_eq_true rfl⟩ rfl rfl rfl rfl (Nat.le_of_ble_eq_true rfl) dX8_refer_7 (fun v_ w1_ hp => ?_)
  obtain ⟨rfl, rfl⟩ := hp
  show Z X (0) (0) (mw E r (zI S 0 0)) [(0, .ref (r 0)), (1, .int (nI o)), (2, .int (-1))] 10 [.int (bI (thB m (za (zI S 0 0) 2) (nI o)))]
  rw [show (bI (thB m (za (zI S 0 0) 2) (nI o))) = 1 from (thB_1 (by omega) hom hth)]
  refine z_if_eq (pc := 10) (tgt := 26) F dX8_refer_10 (by decide) (fun h => absurd h (by decide)) (fun _ => ?_)
  refine z_iload_n (pc := 13) F dX8_refer_13 rfl 2 rfl ?_
  refine z_iconst (pc := 14) (v := (-1)) F dX8_refer_14 (by decide) ?_
  refine z_icmp_eq (pc := 15) (tgt := 28) F dX8_refer_15 (by decide) (fun _ => ?_) (fun h => absurd h (by decide))
  refine z_aload_n (pc := 28) F dX8_refer_28 rfl 0 rfl ?_
  refine z_callVW (pc := 29) (q0 := 0) (ci := 8) (rest := []) F (c_X8_keep l E r (zI S 0 0) m nq eq cq hm hmo (QS_of (S := S) (S' := (zI S 0 0)) rfl rfl rfl rfl hQ) ho) 0 ww_Model_162 (by decide +kernel) rfl ⟨Nat.le_of_ble_eq_true rfl, Nat.le_of_ble_eq_true rfl⟩ ⟨Nat.le_of_ble_eq_true rfl, Nat.le_of_ble_eq_true rfl⟩ rfl rfl rfl rfl (Nat.le_of_ble_eq_true rfl) dX8_refer_29 (fun v_ w1_ hp => ?_)
  obtain ⟨hh0, ab0, f0, hg0, md0, n0, row0, key0, grp0, sm0, sh0, rfl, rfl, h29_0⟩ := hp
  show Z X (0) (0) (mw E r (mse (zI S 0 0) hh0 ab0 f0 hg0 md0 n0 row0 key0 grp0 sm0 sh0 (za (zI S 0 0) 26) (zi (zI S 0 0) 4) (za (zI S 0 0) 13))) [(0, .ref (r 0)), (1, .int (nI o)), (2, .int (-1))] 32 []
  have hk : ∀ q : Nat, q < nq → okSh sh0 60 q (nBf S m eq cq q) := h29_0
  refine z_aload_n (pc := 32) F dX8_refer_32 rfl 0 rfl ?_
  refine z_get (pc := 33) (v := .ref (r 5)) F iX8 0 rfl rfl 7 (by decide) tw_865 rfl dX8_refer_33 ?_
  refine z_iload_n (pc := 36) F dX8_refer_36 rfl 1 rfl ?_
  refine z_iload_n (pc := 37) F dX8_refer_37 rfl 2 rfl ?_
  refine z_iastN (pc := 38) (ws' := mw E r (mse (zA (zI S 0 0) 5 o (-1)) hh0 ab0 f0 hg0 md0 n0 row0 key0 grp0 sm0 sh0 (za (zI S 0 0) 26) (zi (zI S 0 0) 4) (za (zI S 0 0) 13))) (f := za S 5) F 5 0 rfl rfl o rfl (by omega) (by decide) dX8_refer_38 rfl ?_
  refine z_aload_n (pc := 39) F dX8_refer_39 rfl 0 rfl ?_
  refine z_callVW (pc := 40) (q0 := 0) (ci := 8) (rest := []) F (c_X8_settle l E r (mse (zA (zI S 0 0) 5 o (-1)) hh0 ab0 f0 hg0 md0 n0 row0 key0 grp0 sm0 sh0 (za (zI S 0 0) 26) (zi (zI S 0 0) 4) (za (zI S 0 0) 13)) m nq eq cq (nBf S m eq cq) hm hmo (QS_of (S := S) (S' := (mse (zA (zI S 0 0) 5 o (-1)) hh0 ab0 f0 hg0 md0 n0 row0 key0 grp0 sm0 sh0 (za (zI S 0 0) 26) (zi (zI S 0 0) 4) (za (zI S 0 0) 13))) rfl rfl rfl rfl hQ) (objOk_ref ho (Or.inl rfl)) hk) 0 ww_Model_165 (by decide +kernel) rfl ⟨Nat.le_of_ble_eq_true rfl, Nat.le_of_ble_eq_true rfl⟩ ⟨Nat.le_of_ble_eq_true rfl, Nat.le_of_ble_eq_true rfl⟩ rfl rfl rfl rfl (Nat.le_of_ble_eq_true rfl) dX8_refer_40 (fun v_ w1_ hp => ?_)
  obtain ⟨hh2, ab2, f2, hg2, md2, n2, row2, key2, grp2, sm2, nw2, df2, rfl, rfl, h40_0⟩ := hp
  show Z X (0) (0) (mw E r (mse (zA (zI S 0 0) 5 o (-1)) hh2 ab2 f2 hg2 md2 n2 row2 key2 grp2 sm2 sh0 nw2 (nI (dfl (nBf S m eq cq) (nBf (zA (zI S 0 0) 5 o (-1)) m eq cq) nq).length) df2)) [(0, .ref (r 0)), (1, .int (nI o)), (2, .int (-1))] 43 [.int (nI (dfl (nBf S m eq cq) (nBf (zA (zI S 0 0) 5 o (-1)) m eq cq) nq).length)]
  exact z_iret (pc := 43) F hR dX8_refer_43 (Nat.le_of_ble_eq_true rfl) (Nat.le_of_ble_eq_true rfl) ⟨hh2, ab2, f2, hg2, md2, n2, row2, key2, grp2, sm2, sh0, nw2, df2, rfl, rfl, h40_0⟩
set_option maxHeartbeats 4000000 in
set_option maxRecDepth 100000 in
theorem c_X8_refer_s (l : Launch) (E : zE) (r : Nat → Nat) (S : zS) (m : Nat) (nq : Nat) (eq : Nat → Nat → Nat) (cq : Nat → Nat) (o : Nat) (t : Nat) (hm : m ≤ 60) (hmo : zi S 2 = nI m) (hQ : QS S nq eq cq) (ho : objOk S) (hom : o < m) (hth : ¬ za S 2 o = 0) (htm : t < m) (htt : ¬ za S 2 t = 0) : Ct l yX8_refer cX8_refer 3 (some .int) ({ frames := 6, cells := 0, slots := 0, locals := 170 } : Room) E (mw E r S) [.ref (r 0), .int (nI o), .int (nI t)] (fun v_ w_ => ∃ hh : Int32, ∃ ab : Int32, ∃ f : Nat → Int64, ∃ hg : Nat → Int32, ∃ md : Nat → Int64, ∃ n : Int32, ∃ row : Nat → Int32, ∃ key : Nat → Int64, ∃ grp : Nat → Int64, ∃ sm : Nat → Int64, ∃ sh : Nat → Int32, ∃ nw : Nat → Int32, ∃ df : Nat → Int32, v_ = some (.int (nI (dfl (nBf S m eq cq) (nBf (zA (zI S 0 0) 5 o (nI t)) m eq cq) nq).length)) ∧ w_ = mw E r (mse (zA (zI S 0 0) 5 o (nI t)) hh ab f hg md n row key grp sm sh nw (nI (dfl (nBf S m eq cq) (nBf (zA (zI S 0 0) 5 o (nI t)) m eq cq) nq).length) df) ∧ (dfR (dfl (nBf S m eq cq) (nBf (zA (zI S 0 0) 5 o (nI t)) m eq cq) nq) df)) := by
  refine Ct.of (by decide) (Nat.le_of_ble_eq_true rfl) (lv := [(0, .ref (r 0)), (1, .int (nI o)), (2, .int (nI t))]) rfl ?_
  intro X F hR
  have F : zF X l ({ frames := 6, cells := 0, slots := 0, locals := 170 } : Room) E cX8_refer 3 "LiveQueriesModel" := F
  refine z_aload_n (pc := 0) F dX8_refer_0 rfl 0 rfl ?_
  refine z_iconst (pc := 1) (v := 0) F dX8_refer_1 (by decide) ?_
  refine z_put (pc := 2) (ws' := mw E r (zI S 0 0)) F iX8 tyX8 tyX8_ok nmX8 0 rfl rfl 0 (by decide) tw_858 rfl rfl rfl (Nat.le_of_ble_eq_true rfl) dX8_refer_2 rfl ?_
  refine z_aload_n (pc := 5) F dX8_refer_5 rfl 0 rfl ?_
  refine z_iload_n (pc := 6) F dX8_refer_6 rfl 1 rfl ?_
  refine z_callVW (pc := 7) (q0 := 0) (ci := 8) (rest := []) F (c_X8_isThere l E r (zI S 0 0) m (nI o) hm hmo) 1 ww_Model_168 (by decide +kernel) rfl ⟨Nat.le_of_ble_eq_true rfl, Nat.le_of_ble_eq_true rfl⟩ ⟨Nat.le_of_ble_eq_true rfl, Nat.le_of_ble_eq_true rfl⟩ rfl rfl rfl rfl (Nat.le_of_ble_eq_true rfl) dX8_refer_7 (fun v_ w1_ hp => ?_)
  obtain ⟨rfl, rfl⟩ := hp
  show Z X (0) (0) (mw E r (zI S 0 0)) [(0, .ref (r 0)), (1, .int (nI o)), (2, .int (nI t))] 10 [.int (bI (thB m (za (zI S 0 0) 2) (nI o)))]
  rw [show (bI (thB m (za (zI S 0 0) 2) (nI o))) = 1 from (thB_1 (by omega) hom hth)]
  refine z_if_eq (pc := 10) (tgt := 26) F dX8_refer_10 (by decide) (fun h => absurd h (by decide)) (fun _ => ?_)
  refine z_iload_n (pc := 13) F dX8_refer_13 rfl 2 rfl ?_
  refine z_iconst (pc := 14) (v := (-1)) F dX8_refer_14 (by decide) ?_
  refine z_icmp_eq (pc := 15) (tgt := 28) F dX8_refer_15 (by decide) (fun c15 => absurd c15 (nI_nm (by omega))) (fun c15 => ?_)
  refine z_aload_n (pc := 18) F dX8_refer_18 rfl 0 rfl ?_
  refine z_iload_n (pc := 19) F dX8_refer_19 rfl 2 rfl ?_
  refine z_callVW (pc := 20) (q0 := 0) (ci := 8) (rest := []) F (c_X8_isThere l E r (zI S 0 0) m (nI t) hm hmo) 1 ww_Model_168 (by decide +kernel) rfl ⟨Nat.le_of_ble_eq_true rfl, Nat.le_of_ble_eq_true rfl⟩ ⟨Nat.le_of_ble_eq_true rfl, Nat.le_of_ble_eq_true rfl⟩ rfl rfl rfl rfl (Nat.le_of_ble_eq_true rfl) dX8_refer_20 (fun v_ w1_ hp => ?_)
  obtain ⟨rfl, rfl⟩ := hp
  show Z X (0) (0) (mw E r (zI S 0 0)) [(0, .ref (r 0)), (1, .int (nI o)), (2, .int (nI t))] 23 [.int (bI (thB m (za (zI S 0 0) 2) (nI t)))]
  rw [show (bI (thB m (za (zI S 0 0) 2) (nI t))) = 1 from (thB_1 (by omega) htm htt)]
  refine z_if_ne (pc := 23) (tgt := 28) F dX8_refer_23 (by decide) (fun _ => ?_) (fun h => absurd h (by decide))
  refine z_aload_n (pc := 28) F dX8_refer_28 rfl 0 rfl ?_
  refine z_callVW (pc := 29) (q0 := 0) (ci := 8) (rest := []) F (c_X8_keep l E r (zI S 0 0) m nq eq cq hm hmo (QS_of (S := S) (S' := (zI S 0 0)) rfl rfl rfl rfl hQ) ho) 0 ww_Model_162 (by decide +kernel) rfl ⟨Nat.le_of_ble_eq_true rfl, Nat.le_of_ble_eq_true rfl⟩ ⟨Nat.le_of_ble_eq_true rfl, Nat.le_of_ble_eq_true rfl⟩ rfl rfl rfl rfl (Nat.le_of_ble_eq_true rfl) dX8_refer_29 (fun v_ w1_ hp => ?_)
  obtain ⟨hh0, ab0, f0, hg0, md0, n0, row0, key0, grp0, sm0, sh0, rfl, rfl, h29_0⟩ := hp
  show Z X (0) (0) (mw E r (mse (zI S 0 0) hh0 ab0 f0 hg0 md0 n0 row0 key0 grp0 sm0 sh0 (za (zI S 0 0) 26) (zi (zI S 0 0) 4) (za (zI S 0 0) 13))) [(0, .ref (r 0)), (1, .int (nI o)), (2, .int (nI t))] 32 []
  have hk : ∀ q : Nat, q < nq → okSh sh0 60 q (nBf S m eq cq q) := h29_0
  refine z_aload_n (pc := 32) F dX8_refer_32 rfl 0 rfl ?_
  refine z_get (pc := 33) (v := .ref (r 5)) F iX8 0 rfl rfl 7 (by decide) tw_865 rfl dX8_refer_33 ?_
  refine z_iload_n (pc := 36) F dX8_refer_36 rfl 1 rfl ?_
  refine z_iload_n (pc := 37) F dX8_refer_37 rfl 2 rfl ?_
  refine z_iastN (pc := 38) (ws' := mw E r (mse (zA (zI S 0 0) 5 o (nI t)) hh0 ab0 f0 hg0 md0 n0 row0 key0 grp0 sm0 sh0 (za (zI S 0 0) 26) (zi (zI S 0 0) 4) (za (zI S 0 0) 13))) (f := za S 5) F 5 0 rfl rfl o rfl (by omega) (by decide) dX8_refer_38 rfl ?_
  refine z_aload_n (pc := 39) F dX8_refer_39 rfl 0 rfl ?_
  refine z_callVW (pc := 40) (q0 := 0) (ci := 8) (rest := []) F (c_X8_settle l E r (mse (zA (zI S 0 0) 5 o (nI t)) hh0 ab0 f0 hg0 md0 n0 row0 key0 grp0 sm0 sh0 (za (zI S 0 0) 26) (zi (zI S 0 0) 4) (za (zI S 0 0) 13)) m nq eq cq (nBf S m eq cq) hm hmo (QS_of (S := S) (S' := (mse (zA (zI S 0 0) 5 o (nI t)) hh0 ab0 f0 hg0 md0 n0 row0 key0 grp0 sm0 sh0 (za (zI S 0 0) 26) (zi (zI S 0 0) 4) (za (zI S 0 0) 13))) rfl rfl rfl rfl hQ) (objOk_ref ho (Or.inr ⟨t, by omega, rfl⟩)) hk) 0 ww_Model_165 (by decide +kernel) rfl ⟨Nat.le_of_ble_eq_true rfl, Nat.le_of_ble_eq_true rfl⟩ ⟨Nat.le_of_ble_eq_true rfl, Nat.le_of_ble_eq_true rfl⟩ rfl rfl rfl rfl (Nat.le_of_ble_eq_true rfl) dX8_refer_40 (fun v_ w1_ hp => ?_)
  obtain ⟨hh2, ab2, f2, hg2, md2, n2, row2, key2, grp2, sm2, nw2, df2, rfl, rfl, h40_0⟩ := hp
  show Z X (0) (0) (mw E r (mse (zA (zI S 0 0) 5 o (nI t)) hh2 ab2 f2 hg2 md2 n2 row2 key2 grp2 sm2 sh0 nw2 (nI (dfl (nBf S m eq cq) (nBf (zA (zI S 0 0) 5 o (nI t)) m eq cq) nq).length) df2)) [(0, .ref (r 0)), (1, .int (nI o)), (2, .int (nI t))] 43 [.int (nI (dfl (nBf S m eq cq) (nBf (zA (zI S 0 0) 5 o (nI t)) m eq cq) nq).length)]
  exact z_iret (pc := 43) F hR dX8_refer_43 (Nat.le_of_ble_eq_true rfl) (Nat.le_of_ble_eq_true rfl) ⟨hh2, ab2, f2, hg2, md2, n2, row2, key2, grp2, sm2, sh0, nw2, df2, rfl, rfl, h40_0⟩
set_option maxHeartbeats 4000000 in
set_option maxRecDepth 100000 in
theorem c_X8_row_ok (l : Launch) (E : zE) (r : Nat → Nat) (S : zS) (m : Nat) (nq : Nat) (eq : Nat → Nat → Nat) (cq : Nat → Nat) (o : Nat) (nn : Nat) (hm : m ≤ 60) (hmo : zi S 2 = nI m) (hQ : QS S nq eq cq) (ho : objOk S) (hom : o < m) (hth : ¬ za S 2 o = 0) (hn : nn ≤ 8) : Ct l yX8_row cX8_row 4 (some .int) ({ frames := 6, cells := 0, slots := 0, locals := 170 } : Room) E (mw E r S) [.ref (r 0), .int (nI o), .int (nI nn)] (fun v_ w_ => ∃ hh : Int32, ∃ ab : Int32, ∃ f : Nat → Int64, ∃ hg : Nat → Int32, ∃ md : Nat → Int64, ∃ n : Int32, ∃ row : Nat → Int32, ∃ key : Nat → Int64, ∃ grp : Nat → Int64, ∃ sm : Nat → Int64, ∃ sh : Nat → Int32, ∃ nw : Nat → Int32, ∃ df : Nat → Int32, v_ = some (.int (nI (dfl (nBf S m eq cq) (nBf (zA (zBw (zI S 0 0) 7 (clrP (zb S 7) o nn 8)) 6 o (nI nn)) m eq cq) nq).length)) ∧ w_ = mw E r (mse (zA (zBw (zI S 0 0) 7 (clrP (zb S 7) o nn 8)) 6 o (nI nn)) hh ab f hg md n row key grp sm sh nw (nI (dfl (nBf S m eq cq) (nBf (zA (zBw (zI S 0 0) 7 (clrP (zb S 7) o nn 8)) 6 o (nI nn)) m eq cq) nq).length) df) ∧ (dfR (dfl (nBf S m eq cq) (nBf (zA (zBw (zI S 0 0) 7 (clrP (zb S 7) o nn 8)) 6 o (nI nn)) m eq cq) nq) df)) := by
  refine Ct.of (by decide) (Nat.le_of_ble_eq_true rfl) (lv := [(0, .ref (r 0)), (1, .int (nI o)), (2, .int (nI nn))]) rfl ?_
  intro X F hR
  have F : zF X l ({ frames := 6, cells := 0, slots := 0, locals := 170 } : Room) E cX8_row 4 "LiveQueriesModel" := F
  refine z_aload_n (pc := 0) F dX8_row_0 rfl 0 rfl ?_
  refine z_iconst (pc := 1) (v := 0) F dX8_row_1 (by decide) ?_
  refine z_put (pc := 2) (ws' := mw E r (zI S 0 0)) F iX8 tyX8 tyX8_ok nmX8 0 rfl rfl 0 (by decide) tw_858 rfl rfl rfl (Nat.le_of_ble_eq_true rfl) dX8_row_2 rfl ?_
  refine z_aload_n (pc := 5) F dX8_row_5 rfl 0 rfl ?_
  refine z_iload_n (pc := 6) F dX8_row_6 rfl 1 rfl ?_
  refine z_callVW (pc := 7) (q0 := 0) (ci := 8) (rest := []) F (c_X8_isThere l E r (zI S 0 0) m (nI o) hm hmo) 1 ww_Model_168 (by decide +kernel) rfl ⟨Nat.le_of_ble_eq_true rfl, Nat.le_of_ble_eq_true rfl⟩ ⟨Nat.le_of_ble_eq_true rfl, Nat.le_of_ble_eq_true rfl⟩ rfl rfl rfl rfl (Nat.le_of_ble_eq_true rfl) dX8_row_7 (fun v_ w1_ hp => ?_)
  obtain ⟨rfl, rfl⟩ := hp
  show Z X (0) (0) (mw E r (zI S 0 0)) [(0, .ref (r 0)), (1, .int (nI o)), (2, .int (nI nn))] 10 [.int (bI (thB m (za (zI S 0 0) 2) (nI o)))]
  rw [show (bI (thB m (za (zI S 0 0) 2) (nI o))) = 1 from (thB_1 (by omega) hom hth)]
  refine z_if_eq (pc := 10) (tgt := 23) F dX8_row_10 (by decide) (fun h => absurd h (by decide)) (fun _ => ?_)
  refine z_iload_n (pc := 13) F dX8_row_13 rfl 2 rfl ?_
  refine z_iconst (pc := 14) (v := 0) F dX8_row_14 (by decide) ?_
  refine z_bipush (pc := 15) (v := 8) F dX8_row_15 (by decide) ?_
  refine z_callS0 (pc := 17) (rest := []) F (c_X8_within l E (nI nn) 0 8) 3 ww_Model_97 (by decide +kernel) rfl ⟨Nat.le_of_ble_eq_true rfl, Nat.le_of_ble_eq_true rfl⟩ ⟨Nat.le_of_ble_eq_true rfl, Nat.le_of_ble_eq_true rfl⟩ rfl (Nat.le_of_ble_eq_true rfl) dX8_row_17 (fun v_ w1_ hp => ?_)
  obtain ⟨rfl, rfl⟩ := hp
  show Z X (0) (0) (mw E r (zI S 0 0)) [(0, .ref (r 0)), (1, .int (nI o)), (2, .int (nI nn))] 20 [.int (bI (decide (0 ≤ (nI nn) ∧ (nI nn) ≤ 8)))]
  rw [show (bI (decide (0 ≤ (nI nn) ∧ (nI nn) ≤ 8))) = 1 from (bwN (n := 8) (by omega) (by decide))]
  refine z_if_ne (pc := 20) (tgt := 25) F dX8_row_20 (by decide) (fun _ => ?_) (fun h => absurd h (by decide))
  refine z_aload_n (pc := 25) F dX8_row_25 rfl 0 rfl ?_
  refine z_callVW (pc := 26) (q0 := 0) (ci := 8) (rest := []) F (c_X8_keep l E r (zI S 0 0) m nq eq cq hm hmo (QS_of (S := S) (S' := (zI S 0 0)) rfl rfl rfl rfl hQ) ho) 0 ww_Model_162 (by decide +kernel) rfl ⟨Nat.le_of_ble_eq_true rfl, Nat.le_of_ble_eq_true rfl⟩ ⟨Nat.le_of_ble_eq_true rfl, Nat.le_of_ble_eq_true rfl⟩ rfl rfl rfl rfl (Nat.le_of_ble_eq_true rfl) dX8_row_26 (fun v_ w1_ hp => ?_)
  obtain ⟨hh0, ab0, f0, hg0, md0, n0, row0, key0, grp0, sm0, sh0, rfl, rfl, h26_0⟩ := hp
  show Z X (0) (0) (mw E r (mse (zI S 0 0) hh0 ab0 f0 hg0 md0 n0 row0 key0 grp0 sm0 sh0 (za (zI S 0 0) 26) (zi (zI S 0 0) 4) (za (zI S 0 0) 13))) [(0, .ref (r 0)), (1, .int (nI o)), (2, .int (nI nn))] 29 []
  have hk : ∀ q : Nat, q < nq → okSh sh0 60 q (nBf S m eq cq q) := h26_0
  refine z_iload_n (pc := 29) F dX8_row_29 rfl 2 rfl ?_
  refine z_istore_n (pc := 30) (lv' := [(0, .ref (r 0)), (1, .int (nI o)), (2, .int (nI nn)), (3, .int (nI nn))]) F dX8_row_30 rfl (by decide) [1, 2, 3, 0] rfl ?_
  have L31 : ∀ (N : Nat) (i : Nat), (8 - i) < N → (nn ≤ i) → (i ≤ 8) → Z X (0) (0) (mw E r (mse (zBw (zI S 0 0) 7 (clrP (zb S 7) o nn i)) hh0 ab0 f0 hg0 md0 n0 row0 key0 grp0 sm0 sh0 (za (zI S 0 0) 26) (zi (zI S 0 0) 4) (za (zI S 0 0) 13))) [(0, .ref (r 0)), (1, .int (nI o)), (2, .int (nI nn)), (3, .int (nI i))] 31 [] := by
    intro N
    induction N with
    | zero => intro i hN; exact absurd hN (Nat.not_lt_zero _)
    | succ N ih31 =>
      intro i hN hni hi
      refine z_iload_n (pc := 31) F dX8_row_31 rfl 3 rfl ?_
      refine z_bipush (pc := 32) (v := 8) F dX8_row_32 (by decide) ?_
      refine z_icmp_ge (pc := 34) (tgt := 55) F dX8_row_34 (by decide) (fun c34 => ?_) (fun c34 => ?_)
      · have hi8 : i = 8 := Nat.le_antisymm hi (gI (a := 8) (by decide) (by omega) c34)
        subst hi8
        refine z_aload_n (pc := 55) F dX8_row_55 rfl 0 rfl ?_
        refine z_get (pc := 56) (v := .ref (r 6)) F iX8 0 rfl rfl 8 (by decide) tw_866 rfl dX8_row_56 ?_
        refine z_iload_n (pc := 59) F dX8_row_59 rfl 1 rfl ?_
        refine z_iload_n (pc := 60) F dX8_row_60 rfl 2 rfl ?_
        refine z_iastN (pc := 61) (ws' := mw E r (mse (zA (zBw (zI S 0 0) 7 (clrP (zb S 7) o nn 8)) 6 o (nI nn)) hh0 ab0 f0 hg0 md0 n0 row0 key0 grp0 sm0 sh0 (za (zI S 0 0) 26) (zi (zI S 0 0) 4) (za (zI S 0 0) 13))) (f := za S 6) F 6 0 rfl rfl o rfl (by omega) (by decide) dX8_row_61 rfl ?_
        refine z_aload_n (pc := 62) F dX8_row_62 rfl 0 rfl ?_
        refine z_callVW (pc := 63) (q0 := 0) (ci := 8) (rest := []) F (c_X8_settle l E r (mse (zA (zBw (zI S 0 0) 7 (clrP (zb S 7) o nn 8)) 6 o (nI nn)) hh0 ab0 f0 hg0 md0 n0 row0 key0 grp0 sm0 sh0 (za (zI S 0 0) 26) (zi (zI S 0 0) 4) (za (zI S 0 0) 13)) m nq eq cq (nBf S m eq cq) hm hmo (QS_of (S := S) (S' := (mse (zA (zBw (zI S 0 0) 7 (clrP (zb S 7) o nn 8)) 6 o (nI nn)) hh0 ab0 f0 hg0 md0 n0 row0 key0 grp0 sm0 sh0 (za (zI S 0 0) 26) (zi (zI S 0 0) 4) (za (zI S 0 0) 13))) rfl rfl rfl rfl hQ) (objOk_len ho hn) hk) 0 ww_Model_165 (by decide +kernel) rfl ⟨Nat.le_of_ble_eq_true rfl, Nat.le_of_ble_eq_true rfl⟩ ⟨Nat.le_of_ble_eq_true rfl, Nat.le_of_ble_eq_true rfl⟩ rfl rfl rfl rfl (Nat.le_of_ble_eq_true rfl) dX8_row_63 (fun v_ w1_ hp => ?_)
        obtain ⟨hh2, ab2, f2, hg2, md2, n2, row2, key2, grp2, sm2, nw2, df2, rfl, rfl, h63_0⟩ := hp
        show Z X (0) (0) (mw E r (mse (zA (zBw (zI S 0 0) 7 (clrP (zb S 7) o nn 8)) 6 o (nI nn)) hh2 ab2 f2 hg2 md2 n2 row2 key2 grp2 sm2 sh0 nw2 (nI (dfl (nBf S m eq cq) (nBf (zA (zBw (zI S 0 0) 7 (clrP (zb S 7) o nn 8)) 6 o (nI nn)) m eq cq) nq).length) df2)) [(0, .ref (r 0)), (1, .int (nI o)), (2, .int (nI nn)), (3, .int (nI 8))] 66 [.int (nI (dfl (nBf S m eq cq) (nBf (zA (zBw (zI S 0 0) 7 (clrP (zb S 7) o nn 8)) 6 o (nI nn)) m eq cq) nq).length)]
        exact z_iret (pc := 66) F hR dX8_row_66 (Nat.le_of_ble_eq_true rfl) (Nat.le_of_ble_eq_true rfl) ⟨hh2, ab2, f2, hg2, md2, n2, row2, key2, grp2, sm2, sh0, nw2, df2, rfl, rfl, h63_0⟩
      · have hi8 := ngI (a := 8) (by decide) (by omega) c34
        refine z_aload_n (pc := 37) F dX8_row_37 rfl 0 rfl ?_
        refine z_get (pc := 38) (v := .ref (r 7)) F iX8 0 rfl rfl 9 (by decide) tw_867 rfl dX8_row_38 ?_
        refine z_bipush (pc := 41) (v := 8) F dX8_row_41 (by decide) ?_
        refine z_iload_n (pc := 43) F dX8_row_43 rfl 1 rfl ?_
        refine z_imul (pc := 44) F dX8_row_44 ?_
        refine z_iload_n (pc := 45) F dX8_row_45 rfl 3 rfl ?_
        refine z_iadd (pc := 46) F dX8_row_46 ?_
        refine z_lconst (pc := 47) (v := 0) F dX8_row_47 (by decide) ?_
        refine z_lastN (pc := 48) (ws' := mw E r (mse (zB (zBw (zI S 0 0) 7 (clrP (zb S 7) o nn i)) 7 (8 * o + i) 0) hh0 ab0 f0 hg0 md0 n0 row0 key0 grp0 sm0 sh0 (za (zI S 0 0) 26) (zi (zI S 0 0) 4) (za (zI S 0 0) 13))) (f := clrP (zb S 7) o nn i) F 7 1 rfl rfl (8 * o + i) ix8b (by omega) (by decide) dX8_row_48 rfl ?_
        refine z_iinc (pc := 49) (v := nI (i + 1)) (lv' := [(0, .ref (r 0)), (1, .int (nI o)), (2, .int (nI nn)), (3, .int (nI (i + 1)))]) F (j := 3) dX8_row_49 rfl (nI_1 _) (by decide) [1, 2, 3, 0] rfl ?_
        refine z_goto (pc := 52) (tgt := 31) F dX8_row_52 (by decide) ?_
        have hih := ih31 (i + 1) (by omega) (by omega) (by omega); rw [← clrP_s (zb S 7) hni] at hih; exact hih
  have L31z := L31 _ nn (Nat.lt_succ_self _) (Nat.le_refl _) hn
  rw [clrP_0] at L31z
  exact L31z
set_option maxHeartbeats 4000000 in
set_option maxRecDepth 100000 in
theorem c_X8_item_ok (l : Launch) (E : zE) (r : Nat → Nat) (S : zS) (m : Nat) (nq : Nat) (eq : Nat → Nat → Nat) (cq : Nat → Nat) (o : Nat) (i : Nat) (ln : Nat) (v : Int64) (hm : m ≤ 60) (hmo : zi S 2 = nI m) (hQ : QS S nq eq cq) (ho : objOk S) (hom : o < m) (hth : ¬ za S 2 o = 0) (hl : za S 6 o = nI ln) (hl8 : ln ≤ 8) (hi : i < ln) : Ct l yX8_item cX8_item 5 (some .int) ({ frames := 6, cells := 0, slots := 0, locals := 170 } : Room) E (mw E r S) [.ref (r 0), .int (nI o), .int (nI i), .long v] (fun v_ w_ => ∃ hh : Int32, ∃ ab : Int32, ∃ f : Nat → Int64, ∃ hg : Nat → Int32, ∃ md : Nat → Int64, ∃ n : Int32, ∃ row : Nat → Int32, ∃ key : Nat → Int64, ∃ grp : Nat → Int64, ∃ sm : Nat → Int64, ∃ sh : Nat → Int32, ∃ nw : Nat → Int32, ∃ df : Nat → Int32, v_ = some (.int (nI (dfl (nBf S m eq cq) (nBf (zB (zI S 0 0) 7 (8 * o + i) v) m eq cq) nq).length)) ∧ w_ = mw E r (mse (zB (zI S 0 0) 7 (8 * o + i) v) hh ab f hg md n row key grp sm sh nw (nI (dfl (nBf S m eq cq) (nBf (zB (zI S 0 0) 7 (8 * o + i) v) m eq cq) nq).length) df) ∧ (dfR (dfl (nBf S m eq cq) (nBf (zB (zI S 0 0) 7 (8 * o + i) v) m eq cq) nq) df)) := by
  refine Ct.of (by decide) (Nat.le_of_ble_eq_true rfl) (lv := [(0, .ref (r 0)), (1, .int (nI o)), (2, .int (nI i)), (3, .long v)]) rfl ?_
  intro X F hR
  have F : zF X l ({ frames := 6, cells := 0, slots := 0, locals := 170 } : Room) E cX8_item 5 "LiveQueriesModel" := F
  refine z_aload_n (pc := 0) F dX8_item_0 rfl 0 rfl ?_
  refine z_iconst (pc := 1) (v := 0) F dX8_item_1 (by decide) ?_
  refine z_put (pc := 2) (ws' := mw E r (zI S 0 0)) F iX8 tyX8 tyX8_ok nmX8 0 rfl rfl 0 (by decide) tw_858 rfl rfl rfl (Nat.le_of_ble_eq_true rfl) dX8_item_2 rfl ?_
  refine z_aload_n (pc := 5) F dX8_item_5 rfl 0 rfl ?_
  refine z_iload_n (pc := 6) F dX8_item_6 rfl 1 rfl ?_
  refine z_callVW (pc := 7) (q0 := 0) (ci := 8) (rest := []) F (c_X8_isThere l E r (zI S 0 0) m (nI o) hm hmo) 1 ww_Model_168 (by decide +kernel) rfl ⟨Nat.le_of_ble_eq_true rfl, Nat.le_of_ble_eq_true rfl⟩ ⟨Nat.le_of_ble_eq_true rfl, Nat.le_of_ble_eq_true rfl⟩ rfl rfl rfl rfl (Nat.le_of_ble_eq_true rfl) dX8_item_7 (fun v_ w1_ hp => ?_)
  obtain ⟨rfl, rfl⟩ := hp
  show Z X (0) (0) (mw E r (zI S 0 0)) [(0, .ref (r 0)), (1, .int (nI o)), (2, .int (nI i)), (3, .long v)] 10 [.int (bI (thB m (za (zI S 0 0) 2) (nI o)))]
  rw [show (bI (thB m (za (zI S 0 0) 2) (nI o))) = 1 from (thB_1 (by omega) hom hth)]
  refine z_if_eq (pc := 10) (tgt := 29) F dX8_item_10 (by decide) (fun h => absurd h (by decide)) (fun _ => ?_)
  refine z_iload_n (pc := 13) F dX8_item_13 rfl 2 rfl ?_
  refine z_iconst (pc := 14) (v := 0) F dX8_item_14 (by decide) ?_
  refine z_aload_n (pc := 15) F dX8_item_15 rfl 0 rfl ?_
  refine z_get (pc := 16) (v := .ref (r 6)) F iX8 0 rfl rfl 8 (by decide) tw_866 rfl dX8_item_16 ?_
  refine z_iload_n (pc := 19) F dX8_item_19 rfl 1 rfl ?_
  refine z_ialdN (pc := 20) (f := za S 6) F 6 0 rfl rfl o rfl (by omega) (by decide) dX8_item_20 ?_
  rw [show (za S 6 o) = nI ln from hl]
  refine z_iconst (pc := 21) (v := 1) F dX8_item_21 (by decide) ?_
  refine z_isub (pc := 22) F dX8_item_22 ?_
  rw [show ((nI ln) - 1) = nI (ln - 1) from (by rw [show ln = (ln - 1) + 1 by omega]; exact nI_pred _)]
  refine z_callS0 (pc := 23) (rest := []) F (c_X8_within l E (nI i) 0 (nI (ln - 1))) 3 ww_Model_97 (by decide +kernel) rfl ⟨Nat.le_of_ble_eq_true rfl, Nat.le_of_ble_eq_true rfl⟩ ⟨Nat.le_of_ble_eq_true rfl, Nat.le_of_ble_eq_true rfl⟩ rfl (Nat.le_of_ble_eq_true rfl) dX8_item_23 (fun v_ w1_ hp => ?_)
  obtain ⟨rfl, rfl⟩ := hp
  show Z X (0) (0) (mw E r (zI S 0 0)) [(0, .ref (r 0)), (1, .int (nI o)), (2, .int (nI i)), (3, .long v)] 26 [.int (bI (decide (0 ≤ (nI i) ∧ (nI i) ≤ (nI (ln - 1)))))]
  rw [show (bI (decide (0 ≤ (nI i) ∧ (nI i) ≤ (nI (ln - 1))))) = 1 from (bwN (by omega) (by omega))]
  refine z_if_ne (pc := 26) (tgt := 31) F dX8_item_26 (by decide) (fun _ => ?_) (fun h => absurd h (by decide))
  refine z_aload_n (pc := 31) F dX8_item_31 rfl 0 rfl ?_
  refine z_callVW (pc := 32) (q0 := 0) (ci := 8) (rest := []) F (c_X8_keep l E r (zI S 0 0) m nq eq cq hm hmo (QS_of (S := S) (S' := (zI S 0 0)) rfl rfl rfl rfl hQ) ho) 0 ww_Model_162 (by decide +kernel) rfl ⟨Nat.le_of_ble_eq_true rfl, Nat.le_of_ble_eq_true rfl⟩ ⟨Nat.le_of_ble_eq_true rfl, Nat.le_of_ble_eq_true rfl⟩ rfl rfl rfl rfl (Nat.le_of_ble_eq_true rfl) dX8_item_32 (fun v_ w1_ hp => ?_)
  obtain ⟨hh0, ab0, f0, hg0, md0, n0, row0, key0, grp0, sm0, sh0, rfl, rfl, h32_0⟩ := hp
  show Z X (0) (0) (mw E r (mse (zI S 0 0) hh0 ab0 f0 hg0 md0 n0 row0 key0 grp0 sm0 sh0 (za (zI S 0 0) 26) (zi (zI S 0 0) 4) (za (zI S 0 0) 13))) [(0, .ref (r 0)), (1, .int (nI o)), (2, .int (nI i)), (3, .long v)] 35 []
  have hk : ∀ q : Nat, q < nq → okSh sh0 60 q (nBf S m eq cq q) := h32_0
  refine z_aload_n (pc := 35) F dX8_item_35 rfl 0 rfl ?_
  refine z_get (pc := 36) (v := .ref (r 7)) F iX8 0 rfl rfl 9 (by decide) tw_867 rfl dX8_item_36 ?_
  refine z_bipush (pc := 39) (v := 8) F dX8_item_39 (by decide) ?_
  refine z_iload_n (pc := 41) F dX8_item_41 rfl 1 rfl ?_
  refine z_imul (pc := 42) F dX8_item_42 ?_
  refine z_iload_n (pc := 43) F dX8_item_43 rfl 2 rfl ?_
  refine z_iadd (pc := 44) F dX8_item_44 ?_
  refine z_lload_n (pc := 45) F dX8_item_45 rfl 3 rfl ?_
  refine z_lastN (pc := 46) (ws' := mw E r (mse (zB (zI S 0 0) 7 (8 * o + i) v) hh0 ab0 f0 hg0 md0 n0 row0 key0 grp0 sm0 sh0 (za (zI S 0 0) 26) (zi (zI S 0 0) 4) (za (zI S 0 0) 13))) (f := zb S 7) F 7 1 rfl rfl (8 * o + i) ix8b (by omega) (by decide) dX8_item_46 rfl ?_
  refine z_aload_n (pc := 47) F dX8_item_47 rfl 0 rfl ?_
  refine z_callVW (pc := 48) (q0 := 0) (ci := 8) (rest := []) F (c_X8_settle l E r (mse (zB (zI S 0 0) 7 (8 * o + i) v) hh0 ab0 f0 hg0 md0 n0 row0 key0 grp0 sm0 sh0 (za (zI S 0 0) 26) (zi (zI S 0 0) 4) (za (zI S 0 0) 13)) m nq eq cq (nBf S m eq cq) hm hmo (QS_of (S := S) (S' := (mse (zB (zI S 0 0) 7 (8 * o + i) v) hh0 ab0 f0 hg0 md0 n0 row0 key0 grp0 sm0 sh0 (za (zI S 0 0) 26) (zi (zI S 0 0) 4) (za (zI S 0 0) 13))) rfl rfl rfl rfl hQ) ho hk) 0 ww_Model_165 (by decide +kernel) rfl ⟨Nat.le_of_ble_eq_true rfl, Nat.le_of_ble_eq_true rfl⟩ ⟨Nat.le_of_ble_eq_true rfl, Nat.le_of_ble_eq_true rfl⟩ rfl rfl rfl rfl (Nat.le_of_ble_eq_true rfl) dX8_item_48 (fun v_ w1_ hp => ?_)
  obtain ⟨hh2, ab2, f2, hg2, md2, n2, row2, key2, grp2, sm2, nw2, df2, rfl, rfl, h48_0⟩ := hp
  show Z X (0) (0) (mw E r (mse (zB (zI S 0 0) 7 (8 * o + i) v) hh2 ab2 f2 hg2 md2 n2 row2 key2 grp2 sm2 sh0 nw2 (nI (dfl (nBf S m eq cq) (nBf (zB (zI S 0 0) 7 (8 * o + i) v) m eq cq) nq).length) df2)) [(0, .ref (r 0)), (1, .int (nI o)), (2, .int (nI i)), (3, .long v)] 51 [.int (nI (dfl (nBf S m eq cq) (nBf (zB (zI S 0 0) 7 (8 * o + i) v) m eq cq) nq).length)]
  exact z_iret (pc := 51) F hR dX8_item_51 (Nat.le_of_ble_eq_true rfl) (Nat.le_of_ble_eq_true rfl) ⟨hh2, ab2, f2, hg2, md2, n2, row2, key2, grp2, sm2, sh0, nw2, df2, rfl, rfl, h48_0⟩
set_option maxHeartbeats 4000000 in
set_option maxRecDepth 100000 in
theorem c_X8_drop_ok (l : Launch) (E : zE) (r : Nat → Nat) (S : zS) (m : Nat) (nq : Nat) (eq : Nat → Nat → Nat) (cq : Nat → Nat) (o : Nat) (hm : m ≤ 60) (hmo : zi S 2 = nI m) (hQ : QS S nq eq cq) (ho : objOk S) (hom : o < m) (hth : ¬ za S 2 o = 0) : Ct l yX8_drop cX8_drop 2 (some .int) ({ frames := 6, cells := 0, slots := 0, locals := 170 } : Room) E (mw E r S) [.ref (r 0), .int (nI o)] (fun v_ w_ => ∃ hh : Int32, ∃ ab : Int32, ∃ f : Nat → Int64, ∃ hg : Nat → Int32, ∃ md : Nat → Int64, ∃ n : Int32, ∃ row : Nat → Int32, ∃ key : Nat → Int64, ∃ grp : Nat → Int64, ∃ sm : Nat → Int64, ∃ sh : Nat → Int32, ∃ nw : Nat → Int32, ∃ df : Nat → Int32, v_ = some (.int (nI (dfl (nBf S m eq cq) (nBf (zA (zI S 0 0) 2 o 0) m eq cq) nq).length)) ∧ w_ = mw E r (mse (zA (zI S 0 0) 2 o 0) hh ab f hg md n row key grp sm sh nw (nI (dfl (nBf S m eq cq) (nBf (zA (zI S 0 0) 2 o 0) m eq cq) nq).length) df) ∧ (dfR (dfl (nBf S m eq cq) (nBf (zA (zI S 0 0) 2 o 0) m eq cq) nq) df)) := by
  refine Ct.of (by decide) (Nat.le_of_ble_eq_true rfl) (lv := [(0, .ref (r 0)), (1, .int (nI o))]) rfl ?_
  intro X F hR
  have F : zF X l ({ frames := 6, cells := 0, slots := 0, locals := 170 } : Room) E cX8_drop 2 "LiveQueriesModel" := F
  refine z_aload_n (pc := 0) F dX8_drop_0 rfl 0 rfl ?_
  refine z_iconst (pc := 1) (v := 0) F dX8_drop_1 (by decide) ?_
  refine z_put (pc := 2) (ws' := mw E r (zI S 0 0)) F iX8 tyX8 tyX8_ok nmX8 0 rfl rfl 0 (by decide) tw_858 rfl rfl rfl (Nat.le_of_ble_eq_true rfl) dX8_drop_2 rfl ?_
  refine z_aload_n (pc := 5) F dX8_drop_5 rfl 0 rfl ?_
  refine z_iload_n (pc := 6) F dX8_drop_6 rfl 1 rfl ?_
  refine z_callVW (pc := 7) (q0 := 0) (ci := 8) (rest := []) F (c_X8_isThere l E r (zI S 0 0) m (nI o) hm hmo) 1 ww_Model_168 (by decide +kernel) rfl ⟨Nat.le_of_ble_eq_true rfl, Nat.le_of_ble_eq_true rfl⟩ ⟨Nat.le_of_ble_eq_true rfl, Nat.le_of_ble_eq_true rfl⟩ rfl rfl rfl rfl (Nat.le_of_ble_eq_true rfl) dX8_drop_7 (fun v_ w1_ hp => ?_)
  obtain ⟨rfl, rfl⟩ := hp
  show Z X (0) (0) (mw E r (zI S 0 0)) [(0, .ref (r 0)), (1, .int (nI o))] 10 [.int (bI (thB m (za (zI S 0 0) 2) (nI o)))]
  rw [show (bI (thB m (za (zI S 0 0) 2) (nI o))) = 1 from (thB_1 (by omega) hom hth)]
  refine z_if_ne (pc := 10) (tgt := 15) F dX8_drop_10 (by decide) (fun _ => ?_) (fun h => absurd h (by decide))
  refine z_aload_n (pc := 15) F dX8_drop_15 rfl 0 rfl ?_
  refine z_callVW (pc := 16) (q0 := 0) (ci := 8) (rest := []) F (c_X8_keep l E r (zI S 0 0) m nq eq cq hm hmo (QS_of (S := S) (S' := (zI S 0 0)) rfl rfl rfl rfl hQ) ho) 0 ww_Model_162 (by decide +kernel) rfl ⟨Nat.le_of_ble_eq_true rfl, Nat.le_of_ble_eq_true rfl⟩ ⟨Nat.le_of_ble_eq_true rfl, Nat.le_of_ble_eq_true rfl⟩ rfl rfl rfl rfl (Nat.le_of_ble_eq_true rfl) dX8_drop_16 (fun v_ w1_ hp => ?_)
  obtain ⟨hh0, ab0, f0, hg0, md0, n0, row0, key0, grp0, sm0, sh0, rfl, rfl, h16_0⟩ := hp
  show Z X (0) (0) (mw E r (mse (zI S 0 0) hh0 ab0 f0 hg0 md0 n0 row0 key0 grp0 sm0 sh0 (za (zI S 0 0) 26) (zi (zI S 0 0) 4) (za (zI S 0 0) 13))) [(0, .ref (r 0)), (1, .int (nI o))] 19 []
  have hk : ∀ q : Nat, q < nq → okSh sh0 60 q (nBf S m eq cq q) := h16_0
  refine z_aload_n (pc := 19) F dX8_drop_19 rfl 0 rfl ?_
  refine z_get (pc := 20) (v := .ref (r 2)) F iX8 0 rfl rfl 4 (by decide) tw_862 rfl dX8_drop_20 ?_
  refine z_iload_n (pc := 23) F dX8_drop_23 rfl 1 rfl ?_
  refine z_iconst (pc := 24) (v := 0) F dX8_drop_24 (by decide) ?_
  refine z_zastN (pc := 25) (ws' := mw E r (mse (zA (zI S 0 0) 2 o 0) hh0 ab0 f0 hg0 md0 n0 row0 key0 grp0 sm0 sh0 (za (zI S 0 0) 26) (zi (zI S 0 0) 4) (za (zI S 0 0) 13))) (f := za S 2) F 2 2 rfl rfl o rfl (by omega) (by decide) rfl dX8_drop_25 rfl ?_
  refine z_aload_n (pc := 26) F dX8_drop_26 rfl 0 rfl ?_
  refine z_callVW (pc := 27) (q0 := 0) (ci := 8) (rest := []) F (c_X8_settle l E r (mse (zA (zI S 0 0) 2 o 0) hh0 ab0 f0 hg0 md0 n0 row0 key0 grp0 sm0 sh0 (za (zI S 0 0) 26) (zi (zI S 0 0) 4) (za (zI S 0 0) 13)) m nq eq cq (nBf S m eq cq) hm hmo (QS_of (S := S) (S' := (mse (zA (zI S 0 0) 2 o 0) hh0 ab0 f0 hg0 md0 n0 row0 key0 grp0 sm0 sh0 (za (zI S 0 0) 26) (zi (zI S 0 0) 4) (za (zI S 0 0) 13))) rfl rfl rfl rfl hQ) ho hk) 0 ww_Model_165 (by decide +kernel) rfl ⟨Nat.le_of_ble_eq_true rfl, Nat.le_of_ble_eq_true rfl⟩ ⟨Nat.le_of_ble_eq_true rfl, Nat.le_of_ble_eq_true rfl⟩ rfl rfl rfl rfl (Nat.le_of_ble_eq_true rfl) dX8_drop_27 (fun v_ w1_ hp => ?_)
  obtain ⟨hh2, ab2, f2, hg2, md2, n2, row2, key2, grp2, sm2, nw2, df2, rfl, rfl, h27_0⟩ := hp
  show Z X (0) (0) (mw E r (mse (zA (zI S 0 0) 2 o 0) hh2 ab2 f2 hg2 md2 n2 row2 key2 grp2 sm2 sh0 nw2 (nI (dfl (nBf S m eq cq) (nBf (zA (zI S 0 0) 2 o 0) m eq cq) nq).length) df2)) [(0, .ref (r 0)), (1, .int (nI o))] 30 [.int (nI (dfl (nBf S m eq cq) (nBf (zA (zI S 0 0) 2 o 0) m eq cq) nq).length)]
  exact z_iret (pc := 30) F hR dX8_drop_30 (Nat.le_of_ble_eq_true rfl) (Nat.le_of_ble_eq_true rfl) ⟨hh2, ab2, f2, hg2, md2, n2, row2, key2, grp2, sm2, sh0, nw2, df2, rfl, rfl, h27_0⟩
set_option maxHeartbeats 4000000 in
set_option maxRecDepth 100000 in
theorem c_X8_object_ok (l : Launch) (E : zE) (r : Nat → Nat) (S : zS) (m : Nat) (nq : Nat) (eq : Nat → Nat → Nat) (cq : Nat → Nat) (kd : Nat) (hm : m ≤ 60) (hmo : zi S 2 = nI m) (hQ : QS S nq eq cq) (ho : objOk S) (hkd : kd < 4) (hm2 : m < 60) : Ct l yX8_object cX8_object 3 (some .int) ({ frames := 6, cells := 0, slots := 0, locals := 170 } : Room) E (mw E r S) [.ref (r 0), .int (nI kd)] (fun v_ w_ => ∃ hh : Int32, ∃ ab : Int32, ∃ f : Nat → Int64, ∃ hg : Nat → Int32, ∃ md : Nat → Int64, ∃ n : Int32, ∃ row : Nat → Int32, ∃ key : Nat → Int64, ∃ grp : Nat → Int64, ∃ sm : Nat → Int64, ∃ sh : Nat → Int32, ∃ nw : Nat → Int32, ∃ df : Nat → Int32, v_ = some (.int (nI m)) ∧ w_ = mw E r (mse (zI (zA (zA (zA (zI S 0 0) 2 m 1) 3 m (nI kd)) 5 m (-1)) 2 (nI (m + 1))) hh ab f hg md n row key grp sm sh nw (nI (dfl (nBf S m eq cq) (nBf (zI (zA (zA (zA (zI S 0 0) 2 m 1) 3 m (nI kd)) 5 m (-1)) 2 (nI (m + 1))) (m + 1) eq cq) nq).length) df) ∧ (dfR (dfl (nBf S m eq cq) (nBf (zI (zA (zA (zA (zI S 0 0) 2 m 1) 3 m (nI kd)) 5 m (-1)) 2 (nI (m + 1))) (m + 1) eq cq) nq) df)) := by
  refine Ct.of (by decide) (Nat.le_of_ble_eq_true rfl) (lv := [(0, .ref (r 0)), (1, .int (nI kd))]) rfl ?_
  intro X F hR
  have F : zF X l ({ frames := 6, cells := 0, slots := 0, locals := 170 } : Room) E cX8_object 3 "LiveQueriesModel" := F
  refine z_aload_n (pc := 0) F dX8_object_0 rfl 0 rfl ?_
  refine z_iconst (pc := 1) (v := 0) F dX8_object_1 (by decide) ?_
  refine z_put (pc := 2) (ws' := mw E r (zI S 0 0)) F iX8 tyX8 tyX8_ok nmX8 0 rfl rfl 0 (by decide) tw_858 rfl rfl rfl (Nat.le_of_ble_eq_true rfl) dX8_object_2 rfl ?_
  refine z_iload_n (pc := 5) F dX8_object_5 rfl 1 rfl ?_
  refine z_iconst (pc := 6) (v := 0) F dX8_object_6 (by decide) ?_
  refine z_iconst (pc := 7) (v := 3) F dX8_object_7 (by decide) ?_
  refine z_callS0 (pc := 8) (rest := []) F (c_X8_within l E (nI kd) 0 3) 3 ww_Model_97 (by decide +kernel) rfl ⟨Nat.le_of_ble_eq_true rfl, Nat.le_of_ble_eq_true rfl⟩ ⟨Nat.le_of_ble_eq_true rfl, Nat.le_of_ble_eq_true rfl⟩ rfl (Nat.le_of_ble_eq_true rfl) dX8_object_8 (fun v_ w1_ hp => ?_)
  obtain ⟨rfl, rfl⟩ := hp
  show Z X (0) (0) (mw E r (zI S 0 0)) [(0, .ref (r 0)), (1, .int (nI kd))] 11 [.int (bI (decide (0 ≤ (nI kd) ∧ (nI kd) ≤ 3)))]
  rw [show (bI (decide (0 ≤ (nI kd) ∧ (nI kd) ≤ 3))) = 1 from (bwN (n := 3) (by omega) (by decide))]
  refine z_if_eq (pc := 11) (tgt := 23) F dX8_object_11 (by decide) (fun h => absurd h (by decide)) (fun _ => ?_)
  refine z_aload_n (pc := 14) F dX8_object_14 rfl 0 rfl ?_
  refine z_get (pc := 15) (v := .int (zi S 2)) F iX8 0 rfl rfl 3 (by decide) tw_861 rfl dX8_object_15 ?_
  rw [show (zi S 2) = nI m from hmo]
  refine z_bipush (pc := 18) (v := 60) F dX8_object_18 (by decide) ?_
  refine z_icmp_ne (pc := 20) (tgt := 25) F dX8_object_20 (by decide) (fun c20 => ?_) (fun c20 => absurd c20 (fun h => absurd ((nI_eq (b := 60) (by omega) (by decide)).mp h) (by omega)))
  refine z_aload_n (pc := 25) F dX8_object_25 rfl 0 rfl ?_
  refine z_callVW (pc := 26) (q0 := 0) (ci := 8) (rest := []) F (c_X8_keep l E r (zI S 0 0) m nq eq cq hm hmo (QS_of (S := S) (S' := (zI S 0 0)) rfl rfl rfl rfl hQ) ho) 0 ww_Model_162 (by decide +kernel) rfl ⟨Nat.le_of_ble_eq_true rfl, Nat.le_of_ble_eq_true rfl⟩ ⟨Nat.le_of_ble_eq_true rfl, Nat.le_of_ble_eq_true rfl⟩ rfl rfl rfl rfl (Nat.le_of_ble_eq_true rfl) dX8_object_26 (fun v_ w1_ hp => ?_)
  obtain ⟨hh0, ab0, f0, hg0, md0, n0, row0, key0, grp0, sm0, sh0, rfl, rfl, h26_0⟩ := hp
  show Z X (0) (0) (mw E r (mse (zI S 0 0) hh0 ab0 f0 hg0 md0 n0 row0 key0 grp0 sm0 sh0 (za (zI S 0 0) 26) (zi (zI S 0 0) 4) (za (zI S 0 0) 13))) [(0, .ref (r 0)), (1, .int (nI kd))] 29 []
  have hk : ∀ q : Nat, q < nq → okSh sh0 60 q (nBf S m eq cq q) := h26_0
  refine z_aload_n (pc := 29) F dX8_object_29 rfl 0 rfl ?_
  refine z_get (pc := 30) (v := .ref (r 2)) F iX8 0 rfl rfl 4 (by decide) tw_862 rfl dX8_object_30 ?_
  refine z_aload_n (pc := 33) F dX8_object_33 rfl 0 rfl ?_
  refine z_get (pc := 34) (v := .int (zi S 2)) F iX8 0 rfl rfl 3 (by decide) tw_861 rfl dX8_object_34 ?_
  rw [show (zi S 2) = nI m from hmo]
  refine z_iconst (pc := 37) (v := 1) F dX8_object_37 (by decide) ?_
  refine z_zastN (pc := 38) (ws' := mw E r (mse (zA (zI S 0 0) 2 m 1) hh0 ab0 f0 hg0 md0 n0 row0 key0 grp0 sm0 sh0 (za (zI S 0 0) 26) (zi (zI S 0 0) 4) (za (zI S 0 0) 13))) (f := za S 2) F 2 2 rfl rfl m rfl (by omega) (by decide) rfl dX8_object_38 rfl ?_
  refine z_aload_n (pc := 39) F dX8_object_39 rfl 0 rfl ?_
  refine z_get (pc := 40) (v := .ref (r 3)) F iX8 0 rfl rfl 5 (by decide) tw_863 rfl dX8_object_40 ?_
  refine z_aload_n (pc := 43) F dX8_object_43 rfl 0 rfl ?_
  refine z_get (pc := 44) (v := .int (zi S 2)) F iX8 0 rfl rfl 3 (by decide) tw_861 rfl dX8_object_44 ?_
  rw [show (zi S 2) = nI m from hmo]
  refine z_iload_n (pc := 47) F dX8_object_47 rfl 1 rfl ?_
  refine z_iastN (pc := 48) (ws' := mw E r (mse (zA (zA (zI S 0 0) 2 m 1) 3 m (nI kd)) hh0 ab0 f0 hg0 md0 n0 row0 key0 grp0 sm0 sh0 (za (zI S 0 0) 26) (zi (zI S 0 0) 4) (za (zI S 0 0) 13))) (f := za S 3) F 3 0 rfl rfl m rfl (by omega) (by decide) dX8_object_48 rfl ?_
  refine z_aload_n (pc := 49) F dX8_object_49 rfl 0 rfl ?_
  refine z_get (pc := 50) (v := .ref (r 5)) F iX8 0 rfl rfl 7 (by decide) tw_865 rfl dX8_object_50 ?_
  refine z_aload_n (pc := 53) F dX8_object_53 rfl 0 rfl ?_
  refine z_get (pc := 54) (v := .int (zi S 2)) F iX8 0 rfl rfl 3 (by decide) tw_861 rfl dX8_object_54 ?_
  rw [show (zi S 2) = nI m from hmo]
  refine z_iconst (pc := 57) (v := (-1)) F dX8_object_57 (by decide) ?_
  refine z_iastN (pc := 58) (ws' := mw E r (mse (zA (zA (zA (zI S 0 0) 2 m 1) 3 m (nI kd)) 5 m (-1)) hh0 ab0 f0 hg0 md0 n0 row0 key0 grp0 sm0 sh0 (za (zI S 0 0) 26) (zi (zI S 0 0) 4) (za (zI S 0 0) 13))) (f := za S 5) F 5 0 rfl rfl m rfl (by omega) (by decide) dX8_object_58 rfl ?_
  refine z_aload_n (pc := 59) F dX8_object_59 rfl 0 rfl ?_
  refine z_dup (pc := 60) F dX8_object_60 rfl ?_
  refine z_get (pc := 61) (v := .int (zi S 2)) F iX8 0 rfl rfl 3 (by decide) tw_861 rfl dX8_object_61 ?_
  rw [show (zi S 2) = nI m from hmo]
  refine z_iconst (pc := 64) (v := 1) F dX8_object_64 (by decide) ?_
  refine z_iadd (pc := 65) F dX8_object_65 ?_
  rw [show ((nI m) + 1) = nI (m + 1) from (nI_1 m)]
  refine z_put (pc := 66) (ws' := mw E r (mse (zI (zA (zA (zA (zI S 0 0) 2 m 1) 3 m (nI kd)) 5 m (-1)) 2 (nI (m + 1))) hh0 ab0 f0 hg0 md0 n0 row0 key0 grp0 sm0 sh0 (za (zI S 0 0) 26) (zi (zI S 0 0) 4) (za (zI S 0 0) 13))) F iX8 tyX8 tyX8_ok nmX8 0 rfl rfl 3 (by decide) tw_861 rfl rfl rfl (Nat.le_of_ble_eq_true rfl) dX8_object_66 rfl ?_
  refine z_aload_n (pc := 69) F dX8_object_69 rfl 0 rfl ?_
  refine z_callVW (pc := 70) (q0 := 0) (ci := 8) (rest := []) F (c_X8_settle l E r (mse (zI (zA (zA (zA (zI S 0 0) 2 m 1) 3 m (nI kd)) 5 m (-1)) 2 (nI (m + 1))) hh0 ab0 f0 hg0 md0 n0 row0 key0 grp0 sm0 sh0 (za (zI S 0 0) 26) (zi (zI S 0 0) 4) (za (zI S 0 0) 13)) (m + 1) nq eq cq (nBf S m eq cq) (by omega) rfl (QS_of (S := S) (S' := (mse (zI (zA (zA (zA (zI S 0 0) 2 m 1) 3 m (nI kd)) 5 m (-1)) 2 (nI (m + 1))) hh0 ab0 f0 hg0 md0 n0 row0 key0 grp0 sm0 sh0 (za (zI S 0 0) 26) (zi (zI S 0 0) 4) (za (zI S 0 0) 13))) rfl rfl rfl rfl hQ) (objOk_ref ho (Or.inl rfl)) hk) 0 ww_Model_165 (by decide +kernel) rfl ⟨Nat.le_of_ble_eq_true rfl, Nat.le_of_ble_eq_true rfl⟩ ⟨Nat.le_of_ble_eq_true rfl, Nat.le_of_ble_eq_true rfl⟩ rfl rfl rfl rfl (Nat.le_of_ble_eq_true rfl) dX8_object_70 (fun v_ w1_ hp => ?_)
  obtain ⟨hh2, ab2, f2, hg2, md2, n2, row2, key2, grp2, sm2, nw2, df2, rfl, rfl, h70_0⟩ := hp
  show Z X (0) (0) (mw E r (mse (zI (zA (zA (zA (zI S 0 0) 2 m 1) 3 m (nI kd)) 5 m (-1)) 2 (nI (m + 1))) hh2 ab2 f2 hg2 md2 n2 row2 key2 grp2 sm2 sh0 nw2 (nI (dfl (nBf S m eq cq) (nBf (zI (zA (zA (zA (zI S 0 0) 2 m 1) 3 m (nI kd)) 5 m (-1)) 2 (nI (m + 1))) (m + 1) eq cq) nq).length) df2)) [(0, .ref (r 0)), (1, .int (nI kd))] 73 [.int (nI (dfl (nBf S m eq cq) (nBf (zI (zA (zA (zA (zI S 0 0) 2 m 1) 3 m (nI kd)) 5 m (-1)) 2 (nI (m + 1))) (m + 1) eq cq) nq).length)]
  have hdl := dfl_len (nBf S m eq cq) (nBf (zI (zA (zA (zA (zI S 0 0) 2 m 1) 3 m (nI kd)) 5 m (-1)) 2 (nI (m + 1))) (m + 1) eq cq) nq
  have hnq := hQ.1
  refine z_istore_n (pc := 73) (lv' := [(0, .ref (r 0)), (1, .int (nI kd)), (2, .int (nI (dfl (nBf S m eq cq) (nBf (zI (zA (zA (zA (zI S 0 0) 2 m 1) 3 m (nI kd)) 5 m (-1)) 2 (nI (m + 1))) (m + 1) eq cq) nq).length))]) F dX8_object_73 rfl (by decide) [1, 2, 0] rfl ?_
  refine z_iload_n (pc := 74) F dX8_object_74 rfl 2 rfl ?_
  refine z_if_ge (pc := 75) (tgt := 82) F dX8_object_75 (by decide) (fun c75 => ?_) (fun c75 => absurd (nI_pos' (by omega)) c75)
  refine z_aload_n (pc := 82) F dX8_object_82 rfl 0 rfl ?_
  refine z_get (pc := 83) (v := .int (nI (m + 1))) F iX8 0 rfl rfl 3 (by decide) tw_861 rfl dX8_object_83 ?_
  refine z_iconst (pc := 86) (v := 1) F dX8_object_86 (by decide) ?_
  refine z_isub (pc := 87) F dX8_object_87 ?_
  rw [show ((nI (m + 1)) - 1) = nI m from (nI_pred m)]
  exact z_iret (pc := 88) F hR dX8_object_88 (Nat.le_of_ble_eq_true rfl) (Nat.le_of_ble_eq_true rfl) ⟨hh2, ab2, f2, hg2, md2, n2, row2, key2, grp2, sm2, sh0, nw2, df2, rfl, rfl, h70_0⟩
set_option maxHeartbeats 4000000 in
set_option maxRecDepth 100000 in
theorem c_X8_put_no (l : Launch) (E : zE) (r : Nat → Nat) (S : zS) (m : Nat) (o : Int32) (p : Int32) (v : Int64) (hm : m ≤ 60) (hmo : zi S 2 = nI m) (hno : ¬ (thB m (za S 2) o = true ∧ 0 ≤ p ∧ p ≤ 2)) : Ct l yX8_put cX8_put 5 (some .int) ({ frames := 6, cells := 0, slots := 0, locals := 170 } : Room) E (mw E r S) [.ref (r 0), .int o, .int p, .long v] (fun v_ w_ => v_ = some (.int (-1)) ∧ w_ = mw E r (zI S 0 0)) := by
  refine Ct.of (by decide) (Nat.le_of_ble_eq_true rfl) (lv := [(0, .ref (r 0)), (1, .int o), (2, .int p), (3, .long v)]) rfl ?_
  intro X F hR
  have F : zF X l ({ frames := 6, cells := 0, slots := 0, locals := 170 } : Room) E cX8_put 5 "LiveQueriesModel" := F
  refine z_aload_n (pc := 0) F dX8_put_0 rfl 0 rfl ?_
  refine z_iconst (pc := 1) (v := 0) F dX8_put_1 (by decide) ?_
  refine z_put (pc := 2) (ws' := mw E r (zI S 0 0)) F iX8 tyX8 tyX8_ok nmX8 0 rfl rfl 0 (by decide) tw_858 rfl rfl rfl (Nat.le_of_ble_eq_true rfl) dX8_put_2 rfl ?_
  refine z_aload_n (pc := 5) F dX8_put_5 rfl 0 rfl ?_
  refine z_iload_n (pc := 6) F dX8_put_6 rfl 1 rfl ?_
  refine z_callVW (pc := 7) (q0 := 0) (ci := 8) (rest := []) F (c_X8_isThere l E r (zI S 0 0) m o hm hmo) 1 ww_Model_168 (by decide +kernel) rfl ⟨Nat.le_of_ble_eq_true rfl, Nat.le_of_ble_eq_true rfl⟩ ⟨Nat.le_of_ble_eq_true rfl, Nat.le_of_ble_eq_true rfl⟩ rfl rfl rfl rfl (Nat.le_of_ble_eq_true rfl) dX8_put_7 (fun v_ w1_ hp => ?_)
  obtain ⟨rfl, rfl⟩ := hp
  show Z X (0) (0) (mw E r (zI S 0 0)) [(0, .ref (r 0)), (1, .int o), (2, .int p), (3, .long v)] 10 [.int (bI (thB m (za (zI S 0 0) 2) o))]
  refine z_if_eq (pc := 10) (tgt := 22) F dX8_put_10 (by decide) (fun c10 => ?_) (fun c10 => ?_)
  · replace c10 := bI_f c10
    refine z_iconst (pc := 22) (v := (-1)) F dX8_put_22 (by decide) ?_
    exact z_iret (pc := 23) F hR dX8_put_23 (Nat.le_of_ble_eq_true rfl) (Nat.le_of_ble_eq_true rfl) ⟨rfl, rfl⟩
  · replace c10 := bI_t c10
    refine z_iload_n (pc := 13) F dX8_put_13 rfl 2 rfl ?_
    refine z_iconst (pc := 14) (v := 0) F dX8_put_14 (by decide) ?_
    refine z_iconst (pc := 15) (v := 2) F dX8_put_15 (by decide) ?_
    refine z_callS0 (pc := 16) (rest := []) F (c_X8_within l E p 0 2) 3 ww_Model_97 (by decide +kernel) rfl ⟨Nat.le_of_ble_eq_true rfl, Nat.le_of_ble_eq_true rfl⟩ ⟨Nat.le_of_ble_eq_true rfl, Nat.le_of_ble_eq_true rfl⟩ rfl (Nat.le_of_ble_eq_true rfl) dX8_put_16 (fun v_ w1_ hp => ?_)
    obtain ⟨rfl, rfl⟩ := hp
    show Z X (0) (0) (mw E r (zI S 0 0)) [(0, .ref (r 0)), (1, .int o), (2, .int p), (3, .long v)] 19 [.int (bI (decide (0 ≤ p ∧ p ≤ 2)))]
    refine z_if_ne (pc := 19) (tgt := 24) F dX8_put_19 (by decide) (fun c19 => ?_) (fun c19 => ?_)
    · replace c19 := bI_t c19
      exact absurd ⟨c10, of_decide_eq_true c19⟩ hno
    · replace c19 := bI_f c19
      refine z_iconst (pc := 22) (v := (-1)) F dX8_put_22 (by decide) ?_
      exact z_iret (pc := 23) F hR dX8_put_23 (Nat.le_of_ble_eq_true rfl) (Nat.le_of_ble_eq_true rfl) ⟨rfl, rfl⟩
set_option maxHeartbeats 4000000 in
set_option maxRecDepth 100000 in
theorem c_X8_refer_no (l : Launch) (E : zE) (r : Nat → Nat) (S : zS) (m : Nat) (o : Int32) (t : Int32) (hm : m ≤ 60) (hmo : zi S 2 = nI m) (hno : ¬ (thB m (za S 2) o = true ∧ (t = -1 ∨ thB m (za S 2) t = true))) : Ct l yX8_refer cX8_refer 3 (some .int) ({ frames := 6, cells := 0, slots := 0, locals := 170 } : Room) E (mw E r S) [.ref (r 0), .int o, .int t] (fun v_ w_ => v_ = some (.int (-1)) ∧ w_ = mw E r (zI S 0 0)) := by
  refine Ct.of (by decide) (Nat.le_of_ble_eq_true rfl) (lv := [(0, .ref (r 0)), (1, .int o), (2, .int t)]) rfl ?_
  intro X F hR
  have F : zF X l ({ frames := 6, cells := 0, slots := 0, locals := 170 } : Room) E cX8_refer 3 "LiveQueriesModel" := F
  refine z_aload_n (pc := 0) F dX8_refer_0 rfl 0 rfl ?_
  refine z_iconst (pc := 1) (v := 0) F dX8_refer_1 (by decide) ?_
  refine z_put (pc := 2) (ws' := mw E r (zI S 0 0)) F iX8 tyX8 tyX8_ok nmX8 0 rfl rfl 0 (by decide) tw_858 rfl rfl rfl (Nat.le_of_ble_eq_true rfl) dX8_refer_2 rfl ?_
  refine z_aload_n (pc := 5) F dX8_refer_5 rfl 0 rfl ?_
  refine z_iload_n (pc := 6) F dX8_refer_6 rfl 1 rfl ?_
  refine z_callVW (pc := 7) (q0 := 0) (ci := 8) (rest := []) F (c_X8_isThere l E r (zI S 0 0) m o hm hmo) 1 ww_Model_168 (by decide +kernel) rfl ⟨Nat.le_of_ble_eq_true rfl, Nat.le_of_ble_eq_true rfl⟩ ⟨Nat.le_of_ble_eq_true rfl, Nat.le_of_ble_eq_true rfl⟩ rfl rfl rfl rfl (Nat.le_of_ble_eq_true rfl) dX8_refer_7 (fun v_ w1_ hp => ?_)
  obtain ⟨rfl, rfl⟩ := hp
  show Z X (0) (0) (mw E r (zI S 0 0)) [(0, .ref (r 0)), (1, .int o), (2, .int t)] 10 [.int (bI (thB m (za (zI S 0 0) 2) o))]
  refine z_if_eq (pc := 10) (tgt := 26) F dX8_refer_10 (by decide) (fun c10 => ?_) (fun c10 => ?_)
  · replace c10 := bI_f c10
    refine z_iconst (pc := 26) (v := (-1)) F dX8_refer_26 (by decide) ?_
    exact z_iret (pc := 27) F hR dX8_refer_27 (Nat.le_of_ble_eq_true rfl) (Nat.le_of_ble_eq_true rfl) ⟨rfl, rfl⟩
  · replace c10 := bI_t c10
    refine z_iload_n (pc := 13) F dX8_refer_13 rfl 2 rfl ?_
    refine z_iconst (pc := 14) (v := (-1)) F dX8_refer_14 (by decide) ?_
    refine z_icmp_eq (pc := 15) (tgt := 28) F dX8_refer_15 (by decide) (fun c15 => ?_) (fun c15 => ?_)
    · exact absurd ⟨c10, Or.inl c15⟩ hno
    · refine z_aload_n (pc := 18) F dX8_refer_18 rfl 0 rfl ?_
      refine z_iload_n (pc := 19) F dX8_refer_19 rfl 2 rfl ?_
      refine z_callVW (pc := 20) (q0 := 0) (ci := 8) (rest := []) F (c_X8_isThere l E r (zI S 0 0) m t hm hmo) 1 ww_Model_168 (by decide +kernel) rfl ⟨Nat.le_of_ble_eq_true rfl, Nat.le_of_ble_eq_true rfl⟩ ⟨Nat.le_of_ble_eq_true rfl, Nat.le_of_ble_eq_true rfl⟩ rfl rfl rfl rfl (Nat.le_of_ble_eq_true rfl) dX8_refer_20 (fun v_ w1_ hp => ?_)
      obtain ⟨rfl, rfl⟩ := hp
      show Z X (0) (0) (mw E r (zI S 0 0)) [(0, .ref (r 0)), (1, .int o), (2, .int t)] 23 [.int (bI (thB m (za (zI S 0 0) 2) t))]
      refine z_if_ne (pc := 23) (tgt := 28) F dX8_refer_23 (by decide) (fun c23 => ?_) (fun c23 => ?_)
      · replace c23 := bI_t c23
        exact absurd ⟨c10, Or.inr c23⟩ hno
      · replace c23 := bI_f c23
        refine z_iconst (pc := 26) (v := (-1)) F dX8_refer_26 (by decide) ?_
        exact z_iret (pc := 27) F hR dX8_refer_27 (Nat.le_of_ble_eq_true rfl) (Nat.le_of_ble_eq_true rfl) ⟨rfl, rfl⟩
set_option maxHeartbeats 4000000 in
set_option maxRecDepth 100000 in
theorem c_X8_row_no (l : Launch) (E : zE) (r : Nat → Nat) (S : zS) (m : Nat) (o : Int32) (n : Int32) (hm : m ≤ 60) (hmo : zi S 2 = nI m) (hno : ¬ (thB m (za S 2) o = true ∧ 0 ≤ n ∧ n ≤ 8)) : Ct l yX8_row cX8_row 4 (some .int) ({ frames := 6, cells := 0, slots := 0, locals := 170 } : Room) E (mw E r S) [.ref (r 0), .int o, .int n] (fun v_ w_ => v_ = some (.int (-1)) ∧ w_ = mw E r (zI S 0 0)) := by
  refine Ct.of (by decide) (Nat.le_of_ble_eq_true rfl) (lv := [(0, .ref (r 0)), (1, .int o), (2, .int n)]) rfl ?_
  intro X F hR
  have F : zF X l ({ frames := 6, cells := 0, slots := 0, locals := 170 } : Room) E cX8_row 4 "LiveQueriesModel" := F
  refine z_aload_n (pc := 0) F dX8_row_0 rfl 0 rfl ?_
  refine z_iconst (pc := 1) (v := 0) F dX8_row_1 (by decide) ?_
  refine z_put (pc := 2) (ws' := mw E r (zI S 0 0)) F iX8 tyX8 tyX8_ok nmX8 0 rfl rfl 0 (by decide) tw_858 rfl rfl rfl (Nat.le_of_ble_eq_true rfl) dX8_row_2 rfl ?_
  refine z_aload_n (pc := 5) F dX8_row_5 rfl 0 rfl ?_
  refine z_iload_n (pc := 6) F dX8_row_6 rfl 1 rfl ?_
  refine z_callVW (pc := 7) (q0 := 0) (ci := 8) (rest := []) F (c_X8_isThere l E r (zI S 0 0) m o hm hmo) 1 ww_Model_168 (by decide +kernel) rfl ⟨Nat.le_of_ble_eq_true rfl, Nat.le_of_ble_eq_true rfl⟩ ⟨Nat.le_of_ble_eq_true rfl, Nat.le_of_ble_eq_true rfl⟩ rfl rfl rfl rfl (Nat.le_of_ble_eq_true rfl) dX8_row_7 (fun v_ w1_ hp => ?_)
  obtain ⟨rfl, rfl⟩ := hp
  show Z X (0) (0) (mw E r (zI S 0 0)) [(0, .ref (r 0)), (1, .int o), (2, .int n)] 10 [.int (bI (thB m (za (zI S 0 0) 2) o))]
  refine z_if_eq (pc := 10) (tgt := 23) F dX8_row_10 (by decide) (fun c10 => ?_) (fun c10 => ?_)
  · replace c10 := bI_f c10
    refine z_iconst (pc := 23) (v := (-1)) F dX8_row_23 (by decide) ?_
    exact z_iret (pc := 24) F hR dX8_row_24 (Nat.le_of_ble_eq_true rfl) (Nat.le_of_ble_eq_true rfl) ⟨rfl, rfl⟩
  · replace c10 := bI_t c10
    refine z_iload_n (pc := 13) F dX8_row_13 rfl 2 rfl ?_
    refine z_iconst (pc := 14) (v := 0) F dX8_row_14 (by decide) ?_
    refine z_bipush (pc := 15) (v := 8) F dX8_row_15 (by decide) ?_
    refine z_callS0 (pc := 17) (rest := []) F (c_X8_within l E n 0 8) 3 ww_Model_97 (by decide +kernel) rfl ⟨Nat.le_of_ble_eq_true rfl, Nat.le_of_ble_eq_true rfl⟩ ⟨Nat.le_of_ble_eq_true rfl, Nat.le_of_ble_eq_true rfl⟩ rfl (Nat.le_of_ble_eq_true rfl) dX8_row_17 (fun v_ w1_ hp => ?_)
    obtain ⟨rfl, rfl⟩ := hp
    show Z X (0) (0) (mw E r (zI S 0 0)) [(0, .ref (r 0)), (1, .int o), (2, .int n)] 20 [.int (bI (decide (0 ≤ n ∧ n ≤ 8)))]
    refine z_if_ne (pc := 20) (tgt := 25) F dX8_row_20 (by decide) (fun c20 => ?_) (fun c20 => ?_)
    · replace c20 := bI_t c20
      exact absurd ⟨c10, of_decide_eq_true c20⟩ hno
    · replace c20 := bI_f c20
      refine z_iconst (pc := 23) (v := (-1)) F dX8_row_23 (by decide) ?_
      exact z_iret (pc := 24) F hR dX8_row_24 (Nat.le_of_ble_eq_true rfl) (Nat.le_of_ble_eq_true rfl) ⟨rfl, rfl⟩
set_option maxHeartbeats 4000000 in
set_option maxRecDepth 100000 in
theorem c_X8_drop_no (l : Launch) (E : zE) (r : Nat → Nat) (S : zS) (m : Nat) (o : Int32) (hm : m ≤ 60) (hmo : zi S 2 = nI m) (hno : ¬ thB m (za S 2) o = true) : Ct l yX8_drop cX8_drop 2 (some .int) ({ frames := 6, cells := 0, slots := 0, locals := 170 } : Room) E (mw E r S) [.ref (r 0), .int o] (fun v_ w_ => v_ = some (.int (-1)) ∧ w_ = mw E r (zI S 0 0)) := by
  refine Ct.of (by decide) (Nat.le_of_ble_eq_true rfl) (lv := [(0, .ref (r 0)), (1, .int o)]) rfl ?_
  intro X F hR
  have F : zF X l ({ frames := 6, cells := 0, slots := 0, locals := 170 } : Room) E cX8_drop 2 "LiveQueriesModel" := F
  refine z_aload_n (pc := 0) F dX8_drop_0 rfl 0 rfl ?_
  refine z_iconst (pc := 1) (v := 0) F dX8_drop_1 (by decide) ?_
  refine z_put (pc := 2) (ws' := mw E r (zI S 0 0)) F iX8 tyX8 tyX8_ok nmX8 0 rfl rfl 0 (by decide) tw_858 rfl rfl rfl (Nat.le_of_ble_eq_true rfl) dX8_drop_2 rfl ?_
  refine z_aload_n (pc := 5) F dX8_drop_5 rfl 0 rfl ?_
  refine z_iload_n (pc := 6) F dX8_drop_6 rfl 1 rfl ?_
  refine z_callVW (pc := 7) (q0 := 0) (ci := 8) (rest := []) F (c_X8_isThere l E r (zI S 0 0) m o hm hmo) 1 ww_Model_168 (by decide +kernel) rfl ⟨Nat.le_of_ble_eq_true rfl, Nat.le_of_ble_eq_true rfl⟩ ⟨Nat.le_of_ble_eq_true rfl, Nat.le_of_ble_eq_true rfl⟩ rfl rfl rfl rfl (Nat.le_of_ble_eq_true rfl) dX8_drop_7 (fun v_ w1_ hp => ?_)
  obtain ⟨rfl, rfl⟩ := hp
  show Z X (0) (0) (mw E r (zI S 0 0)) [(0, .ref (r 0)), (1, .int o)] 10 [.int (bI (thB m (za (zI S 0 0) 2) o))]
  refine z_if_ne (pc := 10) (tgt := 15) F dX8_drop_10 (by decide) (fun c10 => ?_) (fun c10 => ?_)
  · replace c10 := bI_t c10
    exact absurd c10 hno
  · replace c10 := bI_f c10
    refine z_iconst (pc := 13) (v := (-1)) F dX8_drop_13 (by decide) ?_
    exact z_iret (pc := 14) F hR dX8_drop_14 (Nat.le_of_ble_eq_true rfl) (Nat.le_of_ble_eq_true rfl) ⟨rfl, rfl⟩
set_option maxHeartbeats 4000000 in
set_option maxRecDepth 100000 in
theorem c_X8_item_t (l : Launch) (E : zE) (r : Nat → Nat) (S : zS) (m : Nat) (o : Int32) (i : Int32) (v : Int64) (hm : m ≤ 60) (hmo : zi S 2 = nI m) (hno : ¬ thB m (za S 2) o = true) : Ct l yX8_item cX8_item 5 (some .int) ({ frames := 6, cells := 0, slots := 0, locals := 170 } : Room) E (mw E r S) [.ref (r 0), .int o, .int i, .long v] (fun v_ w_ => v_ = some (.int (-1)) ∧ w_ = mw E r (zI S 0 0)) := by
  refine Ct.of (by decide) (Nat.le_of_ble_eq_true rfl) (lv := [(0, .ref (r 0)), (1, .int o), (2, .int i), (3, .long v)]) rfl ?_
  intro X F hR
  have F : zF X l ({ frames := 6, cells := 0, slots := 0, locals := 170 } : Room) E cX8_item 5 "LiveQueriesModel" := F
  refine z_aload_n (pc := 0) F dX8_item_0 rfl 0 rfl ?_
  refine z_iconst (pc := 1) (v := 0) F dX8_item_1 (by decide) ?_
  refine z_put (pc := 2) (ws' := mw E r (zI S 0 0)) F iX8 tyX8 tyX8_ok nmX8 0 rfl rfl 0 (by decide) tw_858 rfl rfl rfl (Nat.le_of_ble_eq_true rfl) dX8_item_2 rfl ?_
  refine z_aload_n (pc := 5) F dX8_item_5 rfl 0 rfl ?_
  refine z_iload_n (pc := 6) F dX8_item_6 rfl 1 rfl ?_
  refine z_callVW (pc := 7) (q0 := 0) (ci := 8) (rest := []) F (c_X8_isThere l E r (zI S 0 0) m o hm hmo) 1 ww_Model_168 (by decide +kernel) rfl ⟨Nat.le_of_ble_eq_true rfl, Nat.le_of_ble_eq_true rfl⟩ ⟨Nat.le_of_ble_eq_true rfl, Nat.le_of_ble_eq_true rfl⟩ rfl rfl rfl rfl (Nat.le_of_ble_eq_true rfl) dX8_item_7 (fun v_ w1_ hp => ?_)
  obtain ⟨rfl, rfl⟩ := hp
  show Z X (0) (0) (mw E r (zI S 0 0)) [(0, .ref (r 0)), (1, .int o), (2, .int i), (3, .long v)] 10 [.int (bI (thB m (za (zI S 0 0) 2) o))]
  refine z_if_eq (pc := 10) (tgt := 29) F dX8_item_10 (by decide) (fun c10 => ?_) (fun c10 => ?_)
  · replace c10 := bI_f c10
    refine z_iconst (pc := 29) (v := (-1)) F dX8_item_29 (by decide) ?_
    exact z_iret (pc := 30) F hR dX8_item_30 (Nat.le_of_ble_eq_true rfl) (Nat.le_of_ble_eq_true rfl) ⟨rfl, rfl⟩
  · replace c10 := bI_t c10
    exact absurd c10 hno
set_option maxHeartbeats 4000000 in
set_option maxRecDepth 100000 in
theorem c_X8_item_i (l : Launch) (E : zE) (r : Nat → Nat) (S : zS) (m : Nat) (o : Nat) (i : Int32) (v : Int64) (hm : m ≤ 60) (hmo : zi S 2 = nI m) (hom : o < m) (hno : ¬ (0 ≤ i ∧ i ≤ za S 6 o - 1)) : Ct l yX8_item cX8_item 5 (some .int) ({ frames := 6, cells := 0, slots := 0, locals := 170 } : Room) E (mw E r S) [.ref (r 0), .int (nI o), .int i, .long v] (fun v_ w_ => v_ = some (.int (-1)) ∧ w_ = mw E r (zI S 0 0)) := by
  refine Ct.of (by decide) (Nat.le_of_ble_eq_true rfl) (lv := [(0, .ref (r 0)), (1, .int (nI o)), (2, .int i), (3, .long v)]) rfl ?_
  intro X F hR
  have F : zF X l ({ frames := 6, cells := 0, slots := 0, locals := 170 } : Room) E cX8_item 5 "LiveQueriesModel" := F
  refine z_aload_n (pc := 0) F dX8_item_0 rfl 0 rfl ?_
  refine z_iconst (pc := 1) (v := 0) F dX8_item_1 (by decide) ?_
  refine z_put (pc := 2) (ws' := mw E r (zI S 0 0)) F iX8 tyX8 tyX8_ok nmX8 0 rfl rfl 0 (by decide) tw_858 rfl rfl rfl (Nat.le_of_ble_eq_true rfl) dX8_item_2 rfl ?_
  refine z_aload_n (pc := 5) F dX8_item_5 rfl 0 rfl ?_
  refine z_iload_n (pc := 6) F dX8_item_6 rfl 1 rfl ?_
  refine z_callVW (pc := 7) (q0 := 0) (ci := 8) (rest := []) F (c_X8_isThere l E r (zI S 0 0) m (nI o) hm hmo) 1 ww_Model_168 (by decide +kernel) rfl ⟨Nat.le_of_ble_eq_true rfl, Nat.le_of_ble_eq_true rfl⟩ ⟨Nat.le_of_ble_eq_true rfl, Nat.le_of_ble_eq_true rfl⟩ rfl rfl rfl rfl (Nat.le_of_ble_eq_true rfl) dX8_item_7 (fun v_ w1_ hp => ?_)
  obtain ⟨rfl, rfl⟩ := hp
  show Z X (0) (0) (mw E r (zI S 0 0)) [(0, .ref (r 0)), (1, .int (nI o)), (2, .int i), (3, .long v)] 10 [.int (bI (thB m (za (zI S 0 0) 2) (nI o)))]
  refine z_if_eq (pc := 10) (tgt := 29) F dX8_item_10 (by decide) (fun c10 => ?_) (fun c10 => ?_)
  · replace c10 := bI_f c10
    refine z_iconst (pc := 29) (v := (-1)) F dX8_item_29 (by decide) ?_
    exact z_iret (pc := 30) F hR dX8_item_30 (Nat.le_of_ble_eq_true rfl) (Nat.le_of_ble_eq_true rfl) ⟨rfl, rfl⟩
  · replace c10 := bI_t c10
    refine z_iload_n (pc := 13) F dX8_item_13 rfl 2 rfl ?_
    refine z_iconst (pc := 14) (v := 0) F dX8_item_14 (by decide) ?_
    refine z_aload_n (pc := 15) F dX8_item_15 rfl 0 rfl ?_
    refine z_get (pc := 16) (v := .ref (r 6)) F iX8 0 rfl rfl 8 (by decide) tw_866 rfl dX8_item_16 ?_
    refine z_iload_n (pc := 19) F dX8_item_19 rfl 1 rfl ?_
    refine z_ialdN (pc := 20) (f := za S 6) F 6 0 rfl rfl o rfl (by omega) (by decide) dX8_item_20 ?_
    refine z_iconst (pc := 21) (v := 1) F dX8_item_21 (by decide) ?_
    refine z_isub (pc := 22) F dX8_item_22 ?_
    refine z_callS0 (pc := 23) (rest := []) F (c_X8_within l E i 0 ((za S 6 o) - 1)) 3 ww_Model_97 (by decide +kernel) rfl ⟨Nat.le_of_ble_eq_true rfl, Nat.le_of_ble_eq_true rfl⟩ ⟨Nat.le_of_ble_eq_true rfl, Nat.le_of_ble_eq_true rfl⟩ rfl (Nat.le_of_ble_eq_true rfl) dX8_item_23 (fun v_ w1_ hp => ?_)
    obtain ⟨rfl, rfl⟩ := hp
    show Z X (0) (0) (mw E r (zI S 0 0)) [(0, .ref (r 0)), (1, .int (nI o)), (2, .int i), (3, .long v)] 26 [.int (bI (decide (0 ≤ i ∧ i ≤ ((za S 6 o) - 1))))]
    refine z_if_ne (pc := 26) (tgt := 31) F dX8_item_26 (by decide) (fun c26 => ?_) (fun c26 => ?_)
    · replace c26 := bI_t c26
      exact absurd (of_decide_eq_true c26) hno
    · replace c26 := bI_f c26
      refine z_iconst (pc := 29) (v := (-1)) F dX8_item_29 (by decide) ?_
      exact z_iret (pc := 30) F hR dX8_item_30 (Nat.le_of_ble_eq_true rfl) (Nat.le_of_ble_eq_true rfl) ⟨rfl, rfl⟩
set_option maxHeartbeats 4000000 in
set_option maxRecDepth 100000 in
theorem c_X8_object_no (l : Launch) (E : zE) (r : Nat → Nat) (S : zS) (m : Nat) (kd : Int32) (hm : m ≤ 60) (hmo : zi S 2 = nI m) (hno : ¬ (0 ≤ kd ∧ kd ≤ 3 ∧ m < 60)) : Ct l yX8_object cX8_object 3 (some .int) ({ frames := 6, cells := 0, slots := 0, locals := 170 } : Room) E (mw E r S) [.ref (r 0), .int kd] (fun v_ w_ => v_ = some (.int (-1)) ∧ w_ = mw E r (zI S 0 0)) := by
  refine Ct.of (by decide) (Nat.le_of_ble_eq_true rfl) (lv := [(0, .ref (r 0)), (1, .int kd)]) rfl ?_
  intro X F hR
  have F : zF X l ({ frames := 6, cells := 0, slots := 0, locals := 170 } : Room) E cX8_object 3 "LiveQueriesModel" := F
  refine z_aload_n (pc := 0) F dX8_object_0 rfl 0 rfl ?_
  refine z_iconst (pc := 1) (v := 0) F dX8_object_1 (by decide) ?_
  refine z_put (pc := 2) (ws' := mw E r (zI S 0 0)) F iX8 tyX8 tyX8_ok nmX8 0 rfl rfl 0 (by decide) tw_858 rfl rfl rfl (Nat.le_of_ble_eq_true rfl) dX8_object_2 rfl ?_
  refine z_iload_n (pc := 5) F dX8_object_5 rfl 1 rfl ?_
  refine z_iconst (pc := 6) (v := 0) F dX8_object_6 (by decide) ?_
  refine z_iconst (pc := 7) (v := 3) F dX8_object_7 (by decide) ?_
  refine z_callS0 (pc := 8) (rest := []) F (c_X8_within l E kd 0 3) 3 ww_Model_97 (by decide +kernel) rfl ⟨Nat.le_of_ble_eq_true rfl, Nat.le_of_ble_eq_true rfl⟩ ⟨Nat.le_of_ble_eq_true rfl, Nat.le_of_ble_eq_true rfl⟩ rfl (Nat.le_of_ble_eq_true rfl) dX8_object_8 (fun v_ w1_ hp => ?_)
  obtain ⟨rfl, rfl⟩ := hp
  show Z X (0) (0) (mw E r (zI S 0 0)) [(0, .ref (r 0)), (1, .int kd)] 11 [.int (bI (decide (0 ≤ kd ∧ kd ≤ 3)))]
  refine z_if_eq (pc := 11) (tgt := 23) F dX8_object_11 (by decide) (fun c11 => ?_) (fun c11 => ?_)
  · replace c11 := bI_f c11
    refine z_iconst (pc := 23) (v := (-1)) F dX8_object_23 (by decide) ?_
    exact z_iret (pc := 24) F hR dX8_object_24 (Nat.le_of_ble_eq_true rfl) (Nat.le_of_ble_eq_true rfl) ⟨rfl, rfl⟩
  · replace c11 := bI_t c11
    refine z_aload_n (pc := 14) F dX8_object_14 rfl 0 rfl ?_
    refine z_get (pc := 15) (v := .int (zi S 2)) F iX8 0 rfl rfl 3 (by decide) tw_861 rfl dX8_object_15 ?_
    rw [show (zi S 2) = nI m from hmo]
    refine z_bipush (pc := 18) (v := 60) F dX8_object_18 (by decide) ?_
    refine z_icmp_ne (pc := 20) (tgt := 25) F dX8_object_20 (by decide) (fun c20 => ?_) (fun c20 => ?_)
    · exact absurd ⟨(of_decide_eq_true c11).1, (of_decide_eq_true c11).2, by rcases Nat.lt_or_ge m 60 with z | z; exact z; exact absurd (show nI m = 60 by rw [show m = 60 by omega]; rfl) c20⟩ hno
    · refine z_iconst (pc := 23) (v := (-1)) F dX8_object_23 (by decide) ?_
      exact z_iret (pc := 24) F hR dX8_object_24 (Nat.le_of_ble_eq_true rfl) (Nat.le_of_ble_eq_true rfl) ⟨rfl, rfl⟩

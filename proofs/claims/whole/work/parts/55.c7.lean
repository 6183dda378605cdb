set_option maxHeartbeats 4000000 in
set_option maxRecDepth 100000 in
theorem c_X0_valueOf_y (l : Launch) (E : zE) (r : Nat → Nat) (S : zS) (L : List zRow) (k : Nat) (y : zRow) (hL : L.length ≤ 60) (hg : zi S 0 = nI L.length) (hh : hoR L (za S 2) (zb S 1) (zb S 3) (zb S 4)) (hy : L[k]? = some y) : Ct l yX0_valueOf cX0_valueOf 2 (some .long) ({ frames := 1, cells := 0, slots := 0, locals := 22 } : Room) E (grw E r S) [.ref (r 0), .int (nI k)] (fun v_ w_ => v_ = some (.long (y.2.1)) ∧ w_ = grw E r S) := by
  refine Ct.of (by decide) (Nat.le_of_ble_eq_true rfl) (lv := [(0, .ref (r 0)), (1, .int (nI k))]) rfl ?_
  intro X F hR
  have F : zF X l ({ frames := 1, cells := 0, slots := 0, locals := 22 } : Room) E cX0_valueOf 2 "LiveQueries$Groups" := F
  have hkl := (List.getElem?_eq_some_iff.mp hy).1
  refine z_aload_n (pc := 0) F dX0_valueOf_0 rfl 0 rfl ?_
  refine z_iload_n (pc := 1) F dX0_valueOf_1 rfl 1 rfl ?_
  refine z_callVW (pc := 2) (q0 := 0) (ci := 0) (rest := []) F (c_X0_has l E r S L k hL hg (by omega)) 1 ww_Groups_29 (by decide +kernel) rfl ⟨Nat.le_of_ble_eq_true rfl, Nat.le_of_ble_eq_true rfl⟩ ⟨Nat.le_of_ble_eq_true rfl, Nat.le_of_ble_eq_true rfl⟩ rfl rfl rfl rfl (Nat.le_of_ble_eq_true rfl) dX0_valueOf_2 (fun v_ w1_ hp => ?_)
  obtain ⟨rfl, rfl⟩ := hp
  show Z X (0) (0) (grw E r S) [(0, .ref (r 0)), (1, .int (nI k))] 5 [.int (bI (decide (k < L.length)))]
  rw [show (bI (decide (k < L.length))) = 1 from (congrArg bI (decide_eq_true hkl))]
  refine z_if_eq (pc := 5) (tgt := 17) F dX0_valueOf_5 (by decide) (fun h => absurd h (by decide)) (fun _ => ?_)
  refine z_aload_n (pc := 8) F dX0_valueOf_8 rfl 0 rfl ?_
  refine z_get (pc := 9) (v := .ref (r 1)) F iX0 0 rfl rfl 0 (by decide) tw_245 rfl dX0_valueOf_9 ?_
  refine z_iload_n (pc := 12) F dX0_valueOf_12 rfl 1 rfl ?_
  refine z_laldN (pc := 13) (f := zb S 1) F 1 1 rfl rfl k rfl (by omega) (by decide) dX0_valueOf_13 ?_
  rw [show (zb S 1 k) = y.2.1 from (hh k y hy).2.1]
  refine z_goto (pc := 14) (tgt := 18) F dX0_valueOf_14 (by decide) ?_
  exact z_lret (pc := 18) F hR dX0_valueOf_18 (Nat.le_of_ble_eq_true rfl) (Nat.le_of_ble_eq_true rfl) ⟨rfl, rfl⟩
set_option maxHeartbeats 4000000 in
set_option maxRecDepth 100000 in
theorem c_X0_valueOf_n (l : Launch) (E : zE) (r : Nat → Nat) (S : zS) (L : List zRow) (k : Nat) (hL : L.length ≤ 60) (hg : zi S 0 = nI L.length) (hk : k < 2 ^ 31) (hno : L.length ≤ k) : Ct l yX0_valueOf cX0_valueOf 2 (some .long) ({ frames := 1, cells := 0, slots := 0, locals := 22 } : Room) E (grw E r S) [.ref (r 0), .int (nI k)] (fun v_ w_ => v_ = some (.long 0) ∧ w_ = grw E r S) := by
  refine Ct.of (by decide) (Nat.le_of_ble_eq_true rfl) (lv := [(0, .ref (r 0)), (1, .int (nI k))]) rfl ?_
  intro X F hR
  have F : zF X l ({ frames := 1, cells := 0, slots := 0, locals := 22 } : Room) E cX0_valueOf 2 "LiveQueries$Groups" := F
  refine z_aload_n (pc := 0) F dX0_valueOf_0 rfl 0 rfl ?_
  refine z_iload_n (pc := 1) F dX0_valueOf_1 rfl 1 rfl ?_
  refine z_callVW (pc := 2) (q0 := 0) (ci := 0) (rest := []) F (c_X0_has l E r S L k hL hg hk) 1 ww_Groups_29 (by decide +kernel) rfl ⟨Nat.le_of_ble_eq_true rfl, Nat.le_of_ble_eq_true rfl⟩ ⟨Nat.le_of_ble_eq_true rfl, Nat.le_of_ble_eq_true rfl⟩ rfl rfl rfl rfl (Nat.le_of_ble_eq_true rfl) dX0_valueOf_2 (fun v_ w1_ hp => ?_)
  obtain ⟨rfl, rfl⟩ := hp
  show Z X (0) (0) (grw E r S) [(0, .ref (r 0)), (1, .int (nI k))] 5 [.int (bI (decide (k < L.length)))]
  rw [show (bI (decide (k < L.length))) = 0 from (congrArg bI (decide_eq_false (Nat.not_lt.mpr hno)))]
  refine z_if_eq (pc := 5) (tgt := 17) F dX0_valueOf_5 (by decide) (fun _ => ?_) (fun h => absurd h (by decide))
  refine z_lconst (pc := 17) (v := 0) F dX0_valueOf_17 (by decide) ?_
  exact z_lret (pc := 18) F hR dX0_valueOf_18 (Nat.le_of_ble_eq_true rfl) (Nat.le_of_ble_eq_true rfl) ⟨rfl, rfl⟩
set_option maxHeartbeats 4000000 in
set_option maxRecDepth 100000 in
theorem c_X0_rowsOf_y (l : Launch) (E : zE) (r : Nat → Nat) (S : zS) (L : List zRow) (k : Nat) (y : zRow) (hL : L.length ≤ 60) (hg : zi S 0 = nI L.length) (hh : hoR L (za S 2) (zb S 1) (zb S 3) (zb S 4)) (hy : L[k]? = some y) : Ct l yX0_rowsOf cX0_rowsOf 2 (some .long) ({ frames := 1, cells := 0, slots := 0, locals := 22 } : Room) E (grw E r S) [.ref (r 0), .int (nI k)] (fun v_ w_ => v_ = some (.long ((nI y.1).toInt64)) ∧ w_ = grw E r S) := by
  refine Ct.of (by decide) (Nat.le_of_ble_eq_true rfl) (lv := [(0, .ref (r 0)), (1, .int (nI k))]) rfl ?_
  intro X F hR
  have F : zF X l ({ frames := 1, cells := 0, slots := 0, locals := 22 } : Room) E cX0_rowsOf 2 "LiveQueries$Groups" := F
  have hkl := (List.getElem?_eq_some_iff.mp hy).1
  refine z_aload_n (pc := 0) F dX0_rowsOf_0 rfl 0 rfl ?_
  refine z_iload_n (pc := 1) F dX0_rowsOf_1 rfl 1 rfl ?_
  refine z_callVW (pc := 2) (q0 := 0) (ci := 0) (rest := []) F (c_X0_has l E r S L k hL hg (by omega)) 1 ww_Groups_29 (by decide +kernel) rfl ⟨Nat.le_of_ble_eq_true rfl, Nat.le_of_ble_eq_true rfl⟩ ⟨Nat.le_of_ble_eq_true rfl, Nat.le_of_ble_eq_true rfl⟩ rfl rfl rfl rfl (Nat.le_of_ble_eq_true rfl) dX0_rowsOf_2 (fun v_ w1_ hp => ?_)
  obtain ⟨rfl, rfl⟩ := hp
  show Z X (0) (0) (grw E r S) [(0, .ref (r 0)), (1, .int (nI k))] 5 [.int (bI (decide (k < L.length)))]
  rw [show (bI (decide (k < L.length))) = 1 from (congrArg bI (decide_eq_true hkl))]
  refine z_if_eq (pc := 5) (tgt := 18) F dX0_rowsOf_5 (by decide) (fun h => absurd h (by decide)) (fun _ => ?_)
  refine z_aload_n (pc := 8) F dX0_rowsOf_8 rfl 0 rfl ?_
  refine z_get (pc := 9) (v := .ref (r 2)) F iX0 0 rfl rfl 1 (by decide) tw_246 rfl dX0_rowsOf_9 ?_
  refine z_iload_n (pc := 12) F dX0_rowsOf_12 rfl 1 rfl ?_
  refine z_ialdN (pc := 13) (f := za S 2) F 2 0 rfl rfl k rfl (by omega) (by decide) dX0_rowsOf_13 ?_
  rw [show (za S 2 k) = nI y.1 from (hh k y hy).1]
  refine z_i2l (pc := 14) F dX0_rowsOf_14 ?_
  refine z_goto (pc := 15) (tgt := 19) F dX0_rowsOf_15 (by decide) ?_
  exact z_lret (pc := 19) F hR dX0_rowsOf_19 (Nat.le_of_ble_eq_true rfl) (Nat.le_of_ble_eq_true rfl) ⟨rfl, rfl⟩
set_option maxHeartbeats 4000000 in
set_option maxRecDepth 100000 in
theorem c_X0_rowsOf_n (l : Launch) (E : zE) (r : Nat → Nat) (S : zS) (L : List zRow) (k : Nat) (hL : L.length ≤ 60) (hg : zi S 0 = nI L.length) (hk : k < 2 ^ 31) (hno : L.length ≤ k) : Ct l yX0_rowsOf cX0_rowsOf 2 (some .long) ({ frames := 1, cells := 0, slots := 0, locals := 22 } : Room) E (grw E r S) [.ref (r 0), .int (nI k)] (fun v_ w_ => v_ = some (.long 0) ∧ w_ = grw E r S) := by
  refine Ct.of (by decide) (Nat.le_of_ble_eq_true rfl) (lv := [(0, .ref (r 0)), (1, .int (nI k))]) rfl ?_
  intro X F hR
  have F : zF X l ({ frames := 1, cells := 0, slots := 0, locals := 22 } : Room) E cX0_rowsOf 2 "LiveQueries$Groups" := F
  refine z_aload_n (pc := 0) F dX0_rowsOf_0 rfl 0 rfl ?_
  refine z_iload_n (pc := 1) F dX0_rowsOf_1 rfl 1 rfl ?_
  refine z_callVW (pc := 2) (q0 := 0) (ci := 0) (rest := []) F (c_X0_has l E r S L k hL hg hk) 1 ww_Groups_29 (by decide +kernel) rfl ⟨Nat.le_of_ble_eq_true rfl, Nat.le_of_ble_eq_true rfl⟩ ⟨Nat.le_of_ble_eq_true rfl, Nat.le_of_ble_eq_true rfl⟩ rfl rfl rfl rfl (Nat.le_of_ble_eq_true rfl) dX0_rowsOf_2 (fun v_ w1_ hp => ?_)
  obtain ⟨rfl, rfl⟩ := hp
  show Z X (0) (0) (grw E r S) [(0, .ref (r 0)), (1, .int (nI k))] 5 [.int (bI (decide (k < L.length)))]
  rw [show (bI (decide (k < L.length))) = 0 from (congrArg bI (decide_eq_false (Nat.not_lt.mpr hno)))]
  refine z_if_eq (pc := 5) (tgt := 18) F dX0_rowsOf_5 (by decide) (fun _ => ?_) (fun h => absurd h (by decide))
  refine z_lconst (pc := 18) (v := 0) F dX0_rowsOf_18 (by decide) ?_
  exact z_lret (pc := 19) F hR dX0_rowsOf_19 (Nat.le_of_ble_eq_true rfl) (Nat.le_of_ble_eq_true rfl) ⟨rfl, rfl⟩
set_option maxHeartbeats 4000000 in
set_option maxRecDepth 100000 in
theorem c_X0_lowOf_y (l : Launch) (E : zE) (r : Nat → Nat) (S : zS) (L : List zRow) (k : Nat) (y : zRow) (hL : L.length ≤ 60) (hg : zi S 0 = nI L.length) (hh : hoR L (za S 2) (zb S 1) (zb S 3) (zb S 4)) (hy : L[k]? = some y) : Ct l yX0_lowOf cX0_lowOf 2 (some .long) ({ frames := 1, cells := 0, slots := 0, locals := 22 } : Room) E (grw E r S) [.ref (r 0), .int (nI k)] (fun v_ w_ => v_ = some (.long (y.2.2.1)) ∧ w_ = grw E r S) := by
  refine Ct.of (by decide) (Nat.le_of_ble_eq_true rfl) (lv := [(0, .ref (r 0)), (1, .int (nI k))]) rfl ?_
  intro X F hR
  have F : zF X l ({ frames := 1, cells := 0, slots := 0, locals := 22 } : Room) E cX0_lowOf 2 "LiveQueries$Groups" := F
  have hkl := (List.getElem?_eq_some_iff.mp hy).1
  refine z_aload_n (pc := 0) F dX0_lowOf_0 rfl 0 rfl ?_
  refine z_iload_n (pc := 1) F dX0_lowOf_1 rfl 1 rfl ?_
  refine z_callVW (pc := 2) (q0 := 0) (ci := 0) (rest := []) F (c_X0_has l E r S L k hL hg (by omega)) 1 ww_Groups_29 (by decide +kernel) rfl ⟨Nat.le_of_ble_eq_true rfl, Nat.le_of_ble_eq_true rfl⟩ ⟨Nat.le_of_ble_eq_true rfl, Nat.le_of_ble_eq_true rfl⟩ rfl rfl rfl rfl (Nat.le_of_ble_eq_true rfl) dX0_lowOf_2 (fun v_ w1_ hp => ?_)
  obtain ⟨rfl, rfl⟩ := hp
  show Z X (0) (0) (grw E r S) [(0, .ref (r 0)), (1, .int (nI k))] 5 [.int (bI (decide (k < L.length)))]
  rw [show (bI (decide (k < L.length))) = 1 from (congrArg bI (decide_eq_true hkl))]
  refine z_if_eq (pc := 5) (tgt := 17) F dX0_lowOf_5 (by decide) (fun h => absurd h (by decide)) (fun _ => ?_)
  refine z_aload_n (pc := 8) F dX0_lowOf_8 rfl 0 rfl ?_
  refine z_get (pc := 9) (v := .ref (r 3)) F iX0 0 rfl rfl 2 (by decide) tw_247 rfl dX0_lowOf_9 ?_
  refine z_iload_n (pc := 12) F dX0_lowOf_12 rfl 1 rfl ?_
  refine z_laldN (pc := 13) (f := zb S 3) F 3 1 rfl rfl k rfl (by omega) (by decide) dX0_lowOf_13 ?_
  rw [show (zb S 3 k) = y.2.2.1 from (hh k y hy).2.2.1]
  refine z_goto (pc := 14) (tgt := 18) F dX0_lowOf_14 (by decide) ?_
  exact z_lret (pc := 18) F hR dX0_lowOf_18 (Nat.le_of_ble_eq_true rfl) (Nat.le_of_ble_eq_true rfl) ⟨rfl, rfl⟩
set_option maxHeartbeats 4000000 in
set_option maxRecDepth 100000 in
theorem c_X0_lowOf_n (l : Launch) (E : zE) (r : Nat → Nat) (S : zS) (L : List zRow) (k : Nat) (hL : L.length ≤ 60) (hg : zi S 0 = nI L.length) (hk : k < 2 ^ 31) (hno : L.length ≤ k) : Ct l yX0_lowOf cX0_lowOf 2 (some .long) ({ frames := 1, cells := 0, slots := 0, locals := 22 } : Room) E (grw E r S) [.ref (r 0), .int (nI k)] (fun v_ w_ => v_ = some (.long 0) ∧ w_ = grw E r S) := by
  refine Ct.of (by decide) (Nat.le_of_ble_eq_true rfl) (lv := [(0, .ref (r 0)), (1, .int (nI k))]) rfl ?_
  intro X F hR
  have F : zF X l ({ frames := 1, cells := 0, slots := 0, locals := 22 } : Room) E cX0_lowOf 2 "LiveQueries$Groups" := F
  refine z_aload_n (pc := 0) F dX0_lowOf_0 rfl 0 rfl ?_
  refine z_iload_n (pc := 1) F dX0_lowOf_1 rfl 1 rfl ?_
  refine z_callVW (pc := 2) (q0 := 0) (ci := 0) (rest := []) F (c_X0_has l E r S L k hL hg hk) 1 ww_Groups_29 (by decide +kernel) rfl ⟨Nat.le_of_ble_eq_true rfl, Nat.le_of_ble_eq_true rfl⟩ ⟨Nat.le_of_ble_eq_true rfl, Nat.le_of_ble_eq_true rfl⟩ rfl rfl rfl rfl (Nat.le_of_ble_eq_true rfl) dX0_lowOf_2 (fun v_ w1_ hp => ?_)
  obtain ⟨rfl, rfl⟩ := hp
  show Z X (0) (0) (grw E r S) [(0, .ref (r 0)), (1, .int (nI k))] 5 [.int (bI (decide (k < L.length)))]
  rw [show (bI (decide (k < L.length))) = 0 from (congrArg bI (decide_eq_false (Nat.not_lt.mpr hno)))]
  refine z_if_eq (pc := 5) (tgt := 17) F dX0_lowOf_5 (by decide) (fun _ => ?_) (fun h => absurd h (by decide))
  refine z_lconst (pc := 17) (v := 0) F dX0_lowOf_17 (by decide) ?_
  exact z_lret (pc := 18) F hR dX0_lowOf_18 (Nat.le_of_ble_eq_true rfl) (Nat.le_of_ble_eq_true rfl) ⟨rfl, rfl⟩
set_option maxHeartbeats 4000000 in
set_option maxRecDepth 100000 in
theorem c_X0_highOf_y (l : Launch) (E : zE) (r : Nat → Nat) (S : zS) (L : List zRow) (k : Nat) (y : zRow) (hL : L.length ≤ 60) (hg : zi S 0 = nI L.length) (hh : hoR L (za S 2) (zb S 1) (zb S 3) (zb S 4)) (hy : L[k]? = some y) : Ct l yX0_highOf cX0_highOf 2 (some .long) ({ frames := 1, cells := 0, slots := 0, locals := 22 } : Room) E (grw E r S) [.ref (r 0), .int (nI k)] (fun v_ w_ => v_ = some (.long (y.2.2.2)) ∧ w_ = grw E r S) := by
  refine Ct.of (by decide) (Nat.le_of_ble_eq_true rfl) (lv := [(0, .ref (r 0)), (1, .int (nI k))]) rfl ?_
  intro X F hR
  have F : zF X l ({ frames := 1, cells := 0, slots := 0, locals := 22 } : Room) E cX0_highOf 2 "LiveQueries$Groups" := F
  have hkl := (List.getElem?_eq_some_iff.mp hy).1
  refine z_aload_n (pc := 0) F dX0_highOf_0 rfl 0 rfl ?_
  refine z_iload_n (pc := 1) F dX0_highOf_1 rfl 1 rfl ?_
  refine z_callVW (pc := 2) (q0 := 0) (ci := 0) (rest := []) F (c_X0_has l E r S L k hL hg (by omega)) 1 ww_Groups_29 (by decide +kernel) rfl ⟨Nat.le_of_ble_eq_true rfl, Nat.le_of_ble_eq_true rfl⟩ ⟨Nat.le_of_ble_eq_true rfl, Nat.le_of_ble_eq_true rfl⟩ rfl rfl rfl rfl (Nat.le_of_ble_eq_true rfl) dX0_highOf_2 (fun v_ w1_ hp => ?_)
  obtain ⟨rfl, rfl⟩ := hp
  show Z X (0) (0) (grw E r S) [(0, .ref (r 0)), (1, .int (nI k))] 5 [.int (bI (decide (k < L.length)))]
  rw [show (bI (decide (k < L.length))) = 1 from (congrArg bI (decide_eq_true hkl))]
  refine z_if_eq (pc := 5) (tgt := 17) F dX0_highOf_5 (by decide) (fun h => absurd h (by decide)) (fun _ => ?_)
  refine z_aload_n (pc := 8) F dX0_highOf_8 rfl 0 rfl ?_
  refine z_get (pc := 9) (v := .ref (r 4)) F iX0 0 rfl rfl 3 (by decide) tw_248 rfl dX0_highOf_9 ?_
  refine z_iload_n (pc := 12) F dX0_highOf_12 rfl 1 rfl ?_
  refine z_laldN (pc := 13) (f := zb S 4) F 4 1 rfl rfl k rfl (by omega) (by decide) dX0_highOf_13 ?_
  rw [show (zb S 4 k) = y.2.2.2 from (hh k y hy).2.2.2]
  refine z_goto (pc := 14) (tgt := 18) F dX0_highOf_14 (by decide) ?_
  exact z_lret (pc := 18) F hR dX0_highOf_18 (Nat.le_of_ble_eq_true rfl) (Nat.le_of_ble_eq_true rfl) ⟨rfl, rfl⟩
set_option maxHeartbeats 4000000 in
set_option maxRecDepth 100000 in
theorem c_X0_highOf_n (l : Launch) (E : zE) (r : Nat → Nat) (S : zS) (L : List zRow) (k : Nat) (hL : L.length ≤ 60) (hg : zi S 0 = nI L.length) (hk : k < 2 ^ 31) (hno : L.length ≤ k) : Ct l yX0_highOf cX0_highOf 2 (some .long) ({ frames := 1, cells := 0, slots := 0, locals := 22 } : Room) E (grw E r S) [.ref (r 0), .int (nI k)] (fun v_ w_ => v_ = some (.long 0) ∧ w_ = grw E r S) := by
  refine Ct.of (by decide) (Nat.le_of_ble_eq_true rfl) (lv := [(0, .ref (r 0)), (1, .int (nI k))]) rfl ?_
  intro X F hR
  have F : zF X l ({ frames := 1, cells := 0, slots := 0, locals := 22 } : Room) E cX0_highOf 2 "LiveQueries$Groups" := F
  refine z_aload_n (pc := 0) F dX0_highOf_0 rfl 0 rfl ?_
  refine z_iload_n (pc := 1) F dX0_highOf_1 rfl 1 rfl ?_
  refine z_callVW (pc := 2) (q0 := 0) (ci := 0) (rest := []) F (c_X0_has l E r S L k hL hg hk) 1 ww_Groups_29 (by decide +kernel) rfl ⟨Nat.le_of_ble_eq_true rfl, Nat.le_of_ble_eq_true rfl⟩ ⟨Nat.le_of_ble_eq_true rfl, Nat.le_of_ble_eq_true rfl⟩ rfl rfl rfl rfl (Nat.le_of_ble_eq_true rfl) dX0_highOf_2 (fun v_ w1_ hp => ?_)
  obtain ⟨rfl, rfl⟩ := hp
  show Z X (0) (0) (grw E r S) [(0, .ref (r 0)), (1, .int (nI k))] 5 [.int (bI (decide (k < L.length)))]
  rw [show (bI (decide (k < L.length))) = 0 from (congrArg bI (decide_eq_false (Nat.not_lt.mpr hno)))]
  refine z_if_eq (pc := 5) (tgt := 17) F dX0_highOf_5 (by decide) (fun _ => ?_) (fun h => absurd h (by decide))
  refine z_lconst (pc := 17) (v := 0) F dX0_highOf_17 (by decide) ?_
  exact z_lret (pc := 18) F hR dX0_highOf_18 (Nat.le_of_ble_eq_true rfl) (Nat.le_of_ble_eq_true rfl) ⟨rfl, rfl⟩
set_option maxHeartbeats 4000000 in
set_option maxRecDepth 100000 in
theorem c_X0_has_n (l : Launch) (E : zE) (r : Nat → Nat) (S : zS) (L : List zRow) (k : Int32) (hk : k < 0) : Ct l yX0_has cX0_has 2 (some .boolean) ({ frames := 0, cells := 0, slots := 0, locals := 0 } : Room) E (grw E r S) [.ref (r 0), .int k] (fun v_ w_ => v_ = some (.int (bI false)) ∧ w_ = grw E r S) := by
  refine Ct.of (by decide) (Nat.le_of_ble_eq_true rfl) (lv := [(0, .ref (r 0)), (1, .int k)]) rfl ?_
  intro X F hR
  have F : zF X l ({ frames := 0, cells := 0, slots := 0, locals := 0 } : Room) E cX0_has 2 "LiveQueries$Groups" := F
  refine z_iload_n (pc := 0) F dX0_has_0 rfl 1 rfl ?_
  refine z_if_lt (pc := 1) (tgt := 16) F dX0_has_1 (by decide) (fun c1 => ?_) (fun c1 => absurd hk c1)
  refine z_iconst (pc := 16) (v := 0) F dX0_has_16 (by decide) ?_
  exact z_zret (pc := 17) F hR rfl dX0_has_17 (Nat.le_of_ble_eq_true rfl) (Nat.le_of_ble_eq_true rfl) ⟨rfl, rfl⟩

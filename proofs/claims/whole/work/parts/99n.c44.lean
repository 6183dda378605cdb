abbrev LR : Room := { frames := 2012, cells := 1, slots := 6, locals := 60400 }
abbrev RXr : Room := { frames := 7, cells := 1, slots := 6, locals := 200 }
set_option maxRecDepth 100000 in
theorem l_query_y (l : Launch) (hl : l.stackTraces = false) (E : zE) (R : cR) (ro : Nat → Nat) (c : cS) (f : zS) (a : Int32) (P : cS → Prop) (hC : Ct l yX7_query cX7_query 3 (some .int) ({ frames := 2010, cells := 0, slots := 0, locals := 60300 } : Room) E (cW E R c) [.ref (R.1 0)] (cP E R (.int a) P)) : CtH l yL_query cL_query 3 (some .int) [(0, 8, 11, 13)] LR E (cW E R c ++ ow E ro f) [.ref (R.1 0), .ref (ro 0)] (fun v_ w_ => v_ = some (.int 0) ∧ ∃ c' : cS, w_ = cW E R c' ++ ow E ro (zB f 0 0 a.toInt64) ∧ P c') := by
  refine CtH.of hl (by decide) (Nat.le_of_ble_eq_true rfl) (lv := [(0, .ref (R.1 0)), (1, .ref (ro 0))]) rfl ?_
  intro X F hR hZ hT
  have F : zF X l LR E cL_query 3 "LiveQueriesLaw" := F
  obtain ⟨fs, hfs⟩ := cW_0 E R c
  refine z_aload_n (pc := 0) F dL_query_0 rfl 1 rfl ?_
  refine z_iconst (pc := 1) (v := 0) F dL_query_1 (by decide) ?_
  refine z_aload_n (pc := 2) F dL_query_2 rfl 0 rfl ?_
  refine z_callVF (pc := 3) (q0 := 0) (ci := 7) (wr := ow E ro f) (rest := [.int 0, .ref (ro 0)]) F hC 0 ww_Law_7 (by decide +kernel) rfl ⟨by decide, by decide⟩ ⟨by decide, by decide⟩ hfs rfl rfl rfl (Nat.le_of_ble_eq_true rfl) dL_query_3 (fun v_ w1_ hp => ?_)
  obtain ⟨rfl, c1, rfl, h1⟩ := hp
  refine z_i2l (pc := 6) F dL_query_6 ?_
  refine z_outst (pc := 7) F dL_query_7 ?_
  refine z_goto (pc := 8) (tgt := 14) F dL_query_8 (by decide) ?_
  refine z_iconst (pc := 14) (v := 0) F dL_query_14 (by decide) ?_
  exact z_iret (pc := 15) F hR dL_query_15 (by decide) (by decide) ⟨rfl, c1, rfl, h1⟩
set_option maxRecDepth 100000 in
theorem l_query_x (l : Launch) (hl : l.stackTraces = false) (E : zE) (R : cR) (ro : Nat → Nat) (c : cS) (f : zS) (c1 : cS) (hC : CtX l yX7_query cX7_query 3 (some .int) RXr E (cW E R c) [.ref (R.1 0)] xClI (cW E R c1)) : CtH l yL_query cL_query 3 (some .int) [(0, 8, 11, 13)] LR E (cW E R c ++ ow E ro f) [.ref (R.1 0), .ref (ro 0)] (fun v_ w_ => v_ = some (.int 1) ∧ w_ = cW E R c1 ++ ow E ro f) := by
  refine CtH.of hl (by decide) (Nat.le_of_ble_eq_true rfl) (lv := [(0, .ref (R.1 0)), (1, .ref (ro 0))]) rfl ?_
  intro X F hR hZ hT
  have F : zF X l LR E cL_query 3 "LiveQueriesLaw" := F
  obtain ⟨fs, hfs⟩ := cW_0 E R c
  refine z_aload_n (pc := 0) F dL_query_0 rfl 1 rfl ?_
  refine z_iconst (pc := 1) (v := 0) F dL_query_1 (by decide) ?_
  refine z_aload_n (pc := 2) F dL_query_2 rfl 0 rfl ?_
  refine z_callXC (pc := 3) (q0 := 0) (ci := 7) (wr := ow E ro f) (rest := [.int 0, .ref (ro 0)]) F hZ hT hC 0 ww_Law_7 (by decide +kernel) rfl ⟨by decide, by decide⟩ ⟨by decide, by decide⟩ hfs rfl rfl rfl (Nat.le_of_ble_eq_true rfl) dL_query_3 (by decide) (by decide) xLI xCI (fun q => ?_)
  refine z_astore_n (pc := 11) (lv' := [(0, .ref (R.1 0)), (1, .ref (ro 0)), (2, .ref q)]) F dL_query_11 rfl (by decide) [1, 2, 0] rfl ?_
  refine z_iconst (pc := 12) (v := 1) F dL_query_12 (by decide) ?_
  exact z_iret (pc := 13) F hR dL_query_13 (by decide) (by decide) ⟨rfl, rfl⟩
set_option maxRecDepth 100000 in
theorem l_key_y (l : Launch) (hl : l.stackTraces = false) (E : zE) (R : cR) (ro : Nat → Nat) (c : cS) (f : zS) (p0 : Int32) (p1 : Int32) (a : Int64) (P : cS → Prop) (hC : Ct l yX7_key cX7_key 4 (some .long) ({ frames := 4, cells := 0, slots := 0, locals := 140 } : Room) E (cW E R c) [.ref (R.1 0), .int p0, .int p1] (cP E R (.long a) P)) : CtH l yL_key cL_key 5 (some .int) [(0, 9, 12, 19)] LR E (cW E R c ++ ow E ro f) [.ref (R.1 0), .int p0, .int p1, .ref (ro 0)] (fun v_ w_ => v_ = some (.int 0) ∧ ∃ c' : cS, w_ = cW E R c' ++ ow E ro (zB f 0 0 a) ∧ P c') := by
  refine CtH.of hl (by decide) (Nat.le_of_ble_eq_true rfl) (lv := [(0, .ref (R.1 0)), (1, .int p0), (2, .int p1), (3, .ref (ro 0))]) rfl ?_
  intro X F hR hZ hT
  have F : zF X l LR E cL_key 5 "LiveQueriesLaw" := F
  obtain ⟨fs, hfs⟩ := cW_0 E R c
  refine z_aload_n (pc := 0) F dL_key_0 rfl 3 rfl ?_
  refine z_iconst (pc := 1) (v := 0) F dL_key_1 (by decide) ?_
  refine z_aload_n (pc := 2) F dL_key_2 rfl 0 rfl ?_
  refine z_iload_n (pc := 3) F dL_key_3 rfl 1 rfl ?_
  refine z_iload_n (pc := 4) F dL_key_4 rfl 2 rfl ?_
  refine z_callVF (pc := 5) (q0 := 0) (ci := 7) (wr := ow E ro f) (rest := [.int 0, .ref (ro 0)]) F hC 2 ww_Law_15 (by decide +kernel) rfl ⟨by decide, by decide⟩ ⟨by decide, by decide⟩ hfs rfl rfl rfl (Nat.le_of_ble_eq_true rfl) dL_key_5 (fun v_ w1_ hp => ?_)
  obtain ⟨rfl, c1, rfl, h1⟩ := hp
  refine z_outst (pc := 8) F dL_key_8 ?_
  refine z_goto (pc := 9) (tgt := 16) F dL_key_9 (by decide) ?_
  refine z_iconst (pc := 16) (v := 0) F dL_key_16 (by decide) ?_
  exact z_iret (pc := 17) F hR dL_key_17 (by decide) (by decide) ⟨rfl, c1, rfl, h1⟩
set_option maxRecDepth 100000 in
theorem l_key_x (l : Launch) (hl : l.stackTraces = false) (E : zE) (R : cR) (ro : Nat → Nat) (c : cS) (f : zS) (p0 : Int32) (p1 : Int32) (c1 : cS) (hC : CtX l yX7_key cX7_key 4 (some .long) RXr E (cW E R c) [.ref (R.1 0), .int p0, .int p1] xClN (cW E R c1)) : CtH l yL_key cL_key 5 (some .int) [(0, 9, 12, 19)] LR E (cW E R c ++ ow E ro f) [.ref (R.1 0), .int p0, .int p1, .ref (ro 0)] (fun v_ w_ => v_ = some (.int 1) ∧ w_ = cW E R c1 ++ ow E ro f) := by
  refine CtH.of hl (by decide) (Nat.le_of_ble_eq_true rfl) (lv := [(0, .ref (R.1 0)), (1, .int p0), (2, .int p1), (3, .ref (ro 0))]) rfl ?_
  intro X F hR hZ hT
  have F : zF X l LR E cL_key 5 "LiveQueriesLaw" := F
  obtain ⟨fs, hfs⟩ := cW_0 E R c
  refine z_aload_n (pc := 0) F dL_key_0 rfl 3 rfl ?_
  refine z_iconst (pc := 1) (v := 0) F dL_key_1 (by decide) ?_
  refine z_aload_n (pc := 2) F dL_key_2 rfl 0 rfl ?_
  refine z_iload_n (pc := 3) F dL_key_3 rfl 1 rfl ?_
  refine z_iload_n (pc := 4) F dL_key_4 rfl 2 rfl ?_
  refine z_callXC (pc := 5) (q0 := 0) (ci := 7) (wr := ow E ro f) (rest := [.int 0, .ref (ro 0)]) F hZ hT hC 2 ww_Law_15 (by decide +kernel) rfl ⟨by decide, by decide⟩ ⟨by decide, by decide⟩ hfs rfl rfl rfl (Nat.le_of_ble_eq_true rfl) dL_key_5 (by decide) (by decide) xLN xCN (fun q => ?_)
  refine z_astore (pc := 12) (lv' := [(0, .ref (R.1 0)), (1, .int p0), (2, .int p1), (3, .ref (ro 0)), (4, .ref q)]) F dL_key_12 (by decide) [1, 2, 3, 4, 0] rfl ?_
  refine z_iconst (pc := 14) (v := 1) F dL_key_14 (by decide) ?_
  exact z_iret (pc := 15) F hR dL_key_15 (by decide) (by decide) ⟨rfl, rfl⟩
set_option maxRecDepth 100000 in
theorem l_group_y (l : Launch) (hl : l.stackTraces = false) (E : zE) (R : cR) (ro : Nat → Nat) (c : cS) (f : zS) (p0 : Int32) (p1 : Int32) (p2 : Int32) (a : Int64) (P : cS → Prop) (hC : Ct l yX7_group cX7_group 5 (some .long) ({ frames := 4, cells := 0, slots := 0, locals := 140 } : Room) E (cW E R c) [.ref (R.1 0), .int p0, .int p1, .int p2] (cP E R (.long a) P)) : CtH l yL_group cL_group 6 (some .int) [(0, 11, 14, 19)] LR E (cW E R c ++ ow E ro f) [.ref (R.1 0), .int p0, .int p1, .int p2, .ref (ro 0)] (fun v_ w_ => v_ = some (.int 0) ∧ ∃ c' : cS, w_ = cW E R c' ++ ow E ro (zB f 0 0 a) ∧ P c') := by
  refine CtH.of hl (by decide) (Nat.le_of_ble_eq_true rfl) (lv := [(0, .ref (R.1 0)), (1, .int p0), (2, .int p1), (3, .int p2), (4, .ref (ro 0))]) rfl ?_
  intro X F hR hZ hT
  have F : zF X l LR E cL_group 6 "LiveQueriesLaw" := F
  obtain ⟨fs, hfs⟩ := cW_0 E R c
  refine z_aload (pc := 0) F dL_group_0 4 rfl ?_
  refine z_iconst (pc := 2) (v := 0) F dL_group_2 (by decide) ?_
  refine z_aload_n (pc := 3) F dL_group_3 rfl 0 rfl ?_
  refine z_iload_n (pc := 4) F dL_group_4 rfl 1 rfl ?_
  refine z_iload_n (pc := 5) F dL_group_5 rfl 2 rfl ?_
  refine z_iload_n (pc := 6) F dL_group_6 rfl 3 rfl ?_
  refine z_callVF (pc := 7) (q0 := 0) (ci := 7) (wr := ow E ro f) (rest := [.int 0, .ref (ro 0)]) F hC 3 ww_Law_21 (by decide +kernel) rfl ⟨by decide, by decide⟩ ⟨by decide, by decide⟩ hfs rfl rfl rfl (Nat.le_of_ble_eq_true rfl) dL_group_7 (fun v_ w1_ hp => ?_)
  obtain ⟨rfl, c1, rfl, h1⟩ := hp
  refine z_outst (pc := 10) F dL_group_10 ?_
  refine z_goto (pc := 11) (tgt := 18) F dL_group_11 (by decide) ?_
  refine z_iconst (pc := 18) (v := 0) F dL_group_18 (by decide) ?_
  exact z_iret (pc := 19) F hR dL_group_19 (by decide) (by decide) ⟨rfl, c1, rfl, h1⟩
set_option maxRecDepth 100000 in
theorem l_group_x (l : Launch) (hl : l.stackTraces = false) (E : zE) (R : cR) (ro : Nat → Nat) (c : cS) (f : zS) (p0 : Int32) (p1 : Int32) (p2 : Int32) (c1 : cS) (hC : CtX l yX7_group cX7_group 5 (some .long) RXr E (cW E R c) [.ref (R.1 0), .int p0, .int p1, .int p2] xClN (cW E R c1)) : CtH l yL_group cL_group 6 (some .int) [(0, 11, 14, 19)] LR E (cW E R c ++ ow E ro f) [.ref (R.1 0), .int p0, .int p1, .int p2, .ref (ro 0)] (fun v_ w_ => v_ = some (.int 1) ∧ w_ = cW E R c1 ++ ow E ro f) := by
  refine CtH.of hl (by decide) (Nat.le_of_ble_eq_true rfl) (lv := [(0, .ref (R.1 0)), (1, .int p0), (2, .int p1), (3, .int p2), (4, .ref (ro 0))]) rfl ?_
  intro X F hR hZ hT
  have F : zF X l LR E cL_group 6 "LiveQueriesLaw" := F
  obtain ⟨fs, hfs⟩ := cW_0 E R c
  refine z_aload (pc := 0) F dL_group_0 4 rfl ?_
  refine z_iconst (pc := 2) (v := 0) F dL_group_2 (by decide) ?_
  refine z_aload_n (pc := 3) F dL_group_3 rfl 0 rfl ?_
  refine z_iload_n (pc := 4) F dL_group_4 rfl 1 rfl ?_
  refine z_iload_n (pc := 5) F dL_group_5 rfl 2 rfl ?_
  refine z_iload_n (pc := 6) F dL_group_6 rfl 3 rfl ?_
  refine z_callXC (pc := 7) (q0 := 0) (ci := 7) (wr := ow E ro f) (rest := [.int 0, .ref (ro 0)]) F hZ hT hC 3 ww_Law_21 (by decide +kernel) rfl ⟨by decide, by decide⟩ ⟨by decide, by decide⟩ hfs rfl rfl rfl (Nat.le_of_ble_eq_true rfl) dL_group_7 (by decide) (by decide) xLN xCN (fun q => ?_)
  refine z_astore (pc := 14) (lv' := [(0, .ref (R.1 0)), (1, .int p0), (2, .int p1), (3, .int p2), (4, .ref (ro 0)), (5, .ref q)]) F dL_group_14 (by decide) [1, 2, 3, 4, 5, 0] rfl ?_
  refine z_iconst (pc := 16) (v := 1) F dL_group_16 (by decide) ?_
  exact z_iret (pc := 17) F hR dL_group_17 (by decide) (by decide) ⟨rfl, rfl⟩
set_option maxRecDepth 100000 in
theorem l_look_y (l : Launch) (hl : l.stackTraces = false) (E : zE) (R : cR) (ro : Nat → Nat) (c : cS) (f : zS) (p0 : Int32) (p1 : Int32) (a : Int64) (P : cS → Prop) (hC : Ct l yX7_look cX7_look 3 (some .long) ({ frames := 4, cells := 0, slots := 0, locals := 140 } : Room) E (cW E R c) [.ref (R.1 0), .int p0, .int p1] (cP E R (.long a) P)) : CtH l yL_look cL_look 5 (some .int) [(0, 9, 12, 19)] LR E (cW E R c ++ ow E ro f) [.ref (R.1 0), .int p0, .int p1, .ref (ro 0)] (fun v_ w_ => v_ = some (.int 0) ∧ ∃ c' : cS, w_ = cW E R c' ++ ow E ro (zB f 0 0 a) ∧ P c') := by
  refine CtH.of hl (by decide) (Nat.le_of_ble_eq_true rfl) (lv := [(0, .ref (R.1 0)), (1, .int p0), (2, .int p1), (3, .ref (ro 0))]) rfl ?_
  intro X F hR hZ hT
  have F : zF X l LR E cL_look 5 "LiveQueriesLaw" := F
  obtain ⟨fs, hfs⟩ := cW_0 E R c
  refine z_aload_n (pc := 0) F dL_look_0 rfl 3 rfl ?_
  refine z_iconst (pc := 1) (v := 0) F dL_look_1 (by decide) ?_
  refine z_aload_n (pc := 2) F dL_look_2 rfl 0 rfl ?_
  refine z_iload_n (pc := 3) F dL_look_3 rfl 1 rfl ?_
  refine z_iload_n (pc := 4) F dL_look_4 rfl 2 rfl ?_
  refine z_callVF (pc := 5) (q0 := 0) (ci := 7) (wr := ow E ro f) (rest := [.int 0, .ref (ro 0)]) F hC 2 ww_Law_25 (by decide +kernel) rfl ⟨by decide, by decide⟩ ⟨by decide, by decide⟩ hfs rfl rfl rfl (Nat.le_of_ble_eq_true rfl) dL_look_5 (fun v_ w1_ hp => ?_)
  obtain ⟨rfl, c1, rfl, h1⟩ := hp
  refine z_outst (pc := 8) F dL_look_8 ?_
  refine z_goto (pc := 9) (tgt := 16) F dL_look_9 (by decide) ?_
  refine z_iconst (pc := 16) (v := 0) F dL_look_16 (by decide) ?_
  exact z_iret (pc := 17) F hR dL_look_17 (by decide) (by decide) ⟨rfl, c1, rfl, h1⟩
set_option maxRecDepth 100000 in
theorem l_look_x (l : Launch) (hl : l.stackTraces = false) (E : zE) (R : cR) (ro : Nat → Nat) (c : cS) (f : zS) (p0 : Int32) (p1 : Int32) (c1 : cS) (hC : CtX l yX7_look cX7_look 3 (some .long) RXr E (cW E R c) [.ref (R.1 0), .int p0, .int p1] xClN (cW E R c1)) : CtH l yL_look cL_look 5 (some .int) [(0, 9, 12, 19)] LR E (cW E R c ++ ow E ro f) [.ref (R.1 0), .int p0, .int p1, .ref (ro 0)] (fun v_ w_ => v_ = some (.int 1) ∧ w_ = cW E R c1 ++ ow E ro f) := by
  refine CtH.of hl (by decide) (Nat.le_of_ble_eq_true rfl) (lv := [(0, .ref (R.1 0)), (1, .int p0), (2, .int p1), (3, .ref (ro 0))]) rfl ?_
  intro X F hR hZ hT
  have F : zF X l LR E cL_look 5 "LiveQueriesLaw" := F
  obtain ⟨fs, hfs⟩ := cW_0 E R c
  refine z_aload_n (pc := 0) F dL_look_0 rfl 3 rfl ?_
  refine z_iconst (pc := 1) (v := 0) F dL_look_1 (by decide) ?_
  refine z_aload_n (pc := 2) F dL_look_2 rfl 0 rfl ?_
  refine z_iload_n (pc := 3) F dL_look_3 rfl 1 rfl ?_
  refine z_iload_n (pc := 4) F dL_look_4 rfl 2 rfl ?_
  refine z_callXC (pc := 5) (q0 := 0) (ci := 7) (wr := ow E ro f) (rest := [.int 0, .ref (ro 0)]) F hZ hT hC 2 ww_Law_25 (by decide +kernel) rfl ⟨by decide, by decide⟩ ⟨by decide, by decide⟩ hfs rfl rfl rfl (Nat.le_of_ble_eq_true rfl) dL_look_5 (by decide) (by decide) xLN xCN (fun q => ?_)
  refine z_astore (pc := 12) (lv' := [(0, .ref (R.1 0)), (1, .int p0), (2, .int p1), (3, .ref (ro 0)), (4, .ref q)]) F dL_look_12 (by decide) [1, 2, 3, 4, 0] rfl ?_
  refine z_iconst (pc := 14) (v := 1) F dL_look_14 (by decide) ?_
  exact z_iret (pc := 15) F hR dL_look_15 (by decide) (by decide) ⟨rfl, rfl⟩

def plw (E : zE) (r : Nat → Nat) (S : zS) : va_W := [(r 0, .inr (2, [.ref (r 1), .ref (r 2), .ref (r 3), .int (zi S 0), .int (zi S 1), .int (zi S 2), .int (zi S 3), .int (zi S 4), .int (zi S 5), .int (zi S 6)])), (r 1, .inl (E.2 3, 80, .inl (za S 1))), (r 2, .inl (E.2 0, 80, .inl (za S 2))), (r 3, .inl (E.2 0, 80, .inl (za S 3)))]
def grw (E : zE) (r : Nat → Nat) (S : zS) : va_W := [(r 0, .inr (0, [.ref (r 1), .ref (r 2), .ref (r 3), .ref (r 4), .int (zi S 0)])), (r 1, .inl (E.2 1, 60, .inr (.inl (zb S 1)))), (r 2, .inl (E.2 0, 60, .inl (za S 2))), (r 3, .inl (E.2 1, 60, .inr (.inl (zb S 3)))), (r 4, .inl (E.2 1, 60, .inr (.inl (zb S 4))))]
set_option maxHeartbeats 4000000 in
set_option maxRecDepth 100000 in
theorem c_X2_clear (l : Launch) (E : zE) (r : Nat → Nat) (S : zS) : Ct l yX2_clear cX2_clear 1 (none) ({ frames := 0, cells := 0, slots := 0, locals := 0 } : Room) E (plw E r S) [.ref (r 0)] (fun v_ w_ => v_ = none ∧ w_ = plw E r (zI (zI (zI (zI (zI S 0 0) 3 (-1)) 4 (-1)) 5 (-1)) 6 (-1))) := by
  refine Ct.of (by decide) (Nat.le_of_ble_eq_true rfl) (lv := [(0, .ref (r 0))]) rfl ?_
  intro X F hR
  have F : zF X l ({ frames := 0, cells := 0, slots := 0, locals := 0 } : Room) E cX2_clear 1 "LiveQueries$Plan" := F
  refine z_aload_n (pc := 0) F dX2_clear_0 rfl 0 rfl ?_
  refine z_iconst (pc := 1) (v := 0) F dX2_clear_1 (by decide) ?_
  refine z_put (pc := 2) (ws' := plw E r (zI S 0 0)) F iX2 tyX2 tyX2_ok nmX2 0 rfl rfl 3 (by decide) tw_198 rfl rfl rfl (Nat.le_of_ble_eq_true rfl) dX2_clear_2 rfl ?_
  refine z_aload_n (pc := 5) F dX2_clear_5 rfl 0 rfl ?_
  refine z_iconst (pc := 6) (v := (-1)) F dX2_clear_6 (by decide) ?_
  refine z_put (pc := 7) (ws' := plw E r (zI (zI S 0 0) 3 (-1))) F iX2 tyX2 tyX2_ok nmX2 0 rfl rfl 6 (by decide) tw_206 rfl rfl rfl (Nat.le_of_ble_eq_true rfl) dX2_clear_7 rfl ?_
  refine z_aload_n (pc := 10) F dX2_clear_10 rfl 0 rfl ?_
  refine z_iconst (pc := 11) (v := (-1)) F dX2_clear_11 (by decide) ?_
  refine z_put (pc := 12) (ws' := plw E r (zI (zI (zI S 0 0) 3 (-1)) 4 (-1))) F iX2 tyX2 tyX2_ok nmX2 0 rfl rfl 7 (by decide) tw_209 rfl rfl rfl (Nat.le_of_ble_eq_true rfl) dX2_clear_12 rfl ?_
  refine z_aload_n (pc := 15) F dX2_clear_15 rfl 0 rfl ?_
  refine z_iconst (pc := 16) (v := (-1)) F dX2_clear_16 (by decide) ?_
  refine z_put (pc := 17) (ws' := plw E r (zI (zI (zI (zI S 0 0) 3 (-1)) 4 (-1)) 5 (-1))) F iX2 tyX2 tyX2_ok nmX2 0 rfl rfl 8 (by decide) tw_212 rfl rfl rfl (Nat.le_of_ble_eq_true rfl) dX2_clear_17 rfl ?_
  refine z_aload_n (pc := 20) F dX2_clear_20 rfl 0 rfl ?_
  refine z_iconst (pc := 21) (v := (-1)) F dX2_clear_21 (by decide) ?_
  refine z_put (pc := 22) (ws' := plw E r (zI (zI (zI (zI (zI S 0 0) 3 (-1)) 4 (-1)) 5 (-1)) 6 (-1))) F iX2 tyX2 tyX2_ok nmX2 0 rfl rfl 9 (by decide) tw_215 rfl rfl rfl (Nat.le_of_ble_eq_true rfl) dX2_clear_22 rfl ?_
  exact z_vret (pc := 25) F hR dX2_clear_25 (Nat.le_of_ble_eq_true rfl) (Nat.le_of_ble_eq_true rfl) ⟨rfl, rfl⟩
set_option maxHeartbeats 4000000 in
set_option maxRecDepth 100000 in
theorem c_X2_addNode (l : Launch) (E : zE) (r : Nat → Nat) (S : zS) (m : Nat) (op : Int32) (a : Int32) (b : Int32) (hm : m < 80) (hmo : zi S 0 = nI m) (hop : vp_nar .char op = op) : Ct l yX2_addNode cX2_addNode 4 (some .int) ({ frames := 0, cells := 0, slots := 0, locals := 0 } : Room) E (plw E r S) [.ref (r 0), .int op, .int a, .int b] (fun v_ w_ => v_ = some (.int (nI m)) ∧ w_ = plw E r (zI (zA (zA (zA S 1 m op) 2 m a) 3 m b) 0 (nI (m + 1)))) := by
  refine Ct.of (by decide) (Nat.le_of_ble_eq_true rfl) (lv := [(0, .ref (r 0)), (1, .int op), (2, .int a), (3, .int b)]) rfl ?_
  intro X F hR
  have F : zF X l ({ frames := 0, cells := 0, slots := 0, locals := 0 } : Room) E cX2_addNode 4 "LiveQueries$Plan" := F
  refine z_aload_n (pc := 0) F dX2_addNode_0 rfl 0 rfl ?_
  refine z_get (pc := 1) (v := .int (zi S 0)) F iX2 0 rfl rfl 3 (by decide) tw_198 rfl dX2_addNode_1 ?_
  rw [show (zi S 0) = nI m from hmo]
  refine z_bipush (pc := 4) (v := 80) F dX2_addNode_4 (by decide) ?_
  refine z_icmp_lt (pc := 6) (tgt := 11) F dX2_addNode_6 (by decide) (fun c6 => ?_) (fun c6 => absurd (nI_lt (b := 80) hm (by decide)) c6)
  refine z_aload_n (pc := 11) F dX2_addNode_11 rfl 0 rfl ?_
  refine z_get (pc := 12) (v := .ref (r 1)) F iX2 0 rfl rfl 0 (by decide) tw_192 rfl dX2_addNode_12 ?_
  refine z_aload_n (pc := 15) F dX2_addNode_15 rfl 0 rfl ?_
  refine z_get (pc := 16) (v := .int (zi S 0)) F iX2 0 rfl rfl 3 (by decide) tw_198 rfl dX2_addNode_16 ?_
  rw [show (zi S 0) = nI m from hmo]
  refine z_iload_n (pc := 19) F dX2_addNode_19 rfl 1 rfl ?_
  refine z_castN (pc := 20) (ws' := plw E r (zA S 1 m op)) (f := za S 1) F 1 3 rfl rfl m rfl (by omega) (by decide) hop dX2_addNode_20 rfl ?_
  refine z_aload_n (pc := 21) F dX2_addNode_21 rfl 0 rfl ?_
  refine z_get (pc := 22) (v := .ref (r 2)) F iX2 0 rfl rfl 1 (by decide) tw_194 rfl dX2_addNode_22 ?_
  refine z_aload_n (pc := 25) F dX2_addNode_25 rfl 0 rfl ?_
  refine z_get (pc := 26) (v := .int (zi S 0)) F iX2 0 rfl rfl 3 (by decide) tw_198 rfl dX2_addNode_26 ?_
  rw [show (zi S 0) = nI m from hmo]
  refine z_iload_n (pc := 29) F dX2_addNode_29 rfl 2 rfl ?_
  refine z_iastN (pc := 30) (ws' := plw E r (zA (zA S 1 m op) 2 m a)) (f := za S 2) F 2 0 rfl rfl m rfl (by omega) (by decide) dX2_addNode_30 rfl ?_
  refine z_aload_n (pc := 31) F dX2_addNode_31 rfl 0 rfl ?_
  refine z_get (pc := 32) (v := .ref (r 3)) F iX2 0 rfl rfl 2 (by decide) tw_196 rfl dX2_addNode_32 ?_
  refine z_aload_n (pc := 35) F dX2_addNode_35 rfl 0 rfl ?_
  refine z_get (pc := 36) (v := .int (zi S 0)) F iX2 0 rfl rfl 3 (by decide) tw_198 rfl dX2_addNode_36 ?_
  rw [show (zi S 0) = nI m from hmo]
  refine z_iload_n (pc := 39) F dX2_addNode_39 rfl 3 rfl ?_
  refine z_iastN (pc := 40) (ws' := plw E r (zA (zA (zA S 1 m op) 2 m a) 3 m b)) (f := za S 3) F 3 0 rfl rfl m rfl (by omega) (by decide) dX2_addNode_40 rfl ?_
  refine z_aload_n (pc := 41) F dX2_addNode_41 rfl 0 rfl ?_
  refine z_dup (pc := 42) F dX2_addNode_42 rfl ?_
  refine z_get (pc := 43) (v := .int (zi S 0)) F iX2 0 rfl rfl 3 (by decide) tw_198 rfl dX2_addNode_43 ?_
  rw [show (zi S 0) = nI m from hmo]
  refine z_iconst (pc := 46) (v := 1) F dX2_addNode_46 (by decide) ?_
  refine z_iadd (pc := 47) F dX2_addNode_47 ?_
  rw [show ((nI m) + 1) = nI (m + 1) from (nI_1 _)]
  refine z_put (pc := 48) (ws' := plw E r (zI (zA (zA (zA S 1 m op) 2 m a) 3 m b) 0 (nI (m + 1)))) F iX2 tyX2 tyX2_ok nmX2 0 rfl rfl 3 (by decide) tw_198 rfl rfl rfl (Nat.le_of_ble_eq_true rfl) dX2_addNode_48 rfl ?_
  refine z_aload_n (pc := 51) F dX2_addNode_51 rfl 0 rfl ?_
  refine z_get (pc := 52) (v := .int (nI (m + 1))) F iX2 0 rfl rfl 3 (by decide) tw_198 rfl dX2_addNode_52 ?_
  refine z_iconst (pc := 55) (v := 1) F dX2_addNode_55 (by decide) ?_
  refine z_isub (pc := 56) F dX2_addNode_56 ?_
  rw [show ((nI (m + 1)) - 1) = nI m from (nI_pred _)]
  exact z_iret (pc := 57) F hR dX2_addNode_57 (Nat.le_of_ble_eq_true rfl) (Nat.le_of_ble_eq_true rfl) ⟨rfl, rfl⟩
set_option maxHeartbeats 4000000 in
set_option maxRecDepth 100000 in
theorem c_X2_join_y (l : Launch) (E : zE) (r : Nat → Nat) (S : zS) (m : Nat) (op : Int32) (a : Int32) (b : Int32) (hm : m < 80) (hmo : zi S 0 = nI m) (hop : vp_nar .char op = op) (ha : ¬ a = -1) (hb : ¬ b = -1) : Ct l yX2_join cX2_join 4 (some .int) ({ frames := 1, cells := 0, slots := 0, locals := 23 } : Room) E (plw E r S) [.ref (r 0), .int op, .int a, .int b] (fun v_ w_ => v_ = some (.int (nI m)) ∧ w_ = plw E r (zI (zA (zA (zA S 1 m op) 2 m a) 3 m b) 0 (nI (m + 1)))) := by
  refine Ct.of (by decide) (Nat.le_of_ble_eq_true rfl) (lv := [(0, .ref (r 0)), (1, .int op), (2, .int a), (3, .int b)]) rfl ?_
  intro X F hR
  have F : zF X l ({ frames := 1, cells := 0, slots := 0, locals := 23 } : Room) E cX2_join 4 "LiveQueries$Plan" := F
  refine z_iload_n (pc := 0) F dX2_join_0 rfl 2 rfl ?_
  refine z_iconst (pc := 1) (v := (-1)) F dX2_join_1 (by decide) ?_
  refine z_icmp_eq (pc := 2) (tgt := 10) F dX2_join_2 (by decide) (fun c2 => absurd c2 ha) (fun c2 => ?_)
  refine z_iload_n (pc := 5) F dX2_join_5 rfl 3 rfl ?_
  refine z_iconst (pc := 6) (v := (-1)) F dX2_join_6 (by decide) ?_
  refine z_icmp_ne (pc := 7) (tgt := 14) F dX2_join_7 (by decide) (fun c7 => ?_) (fun c7 => absurd c7 hb)
  refine z_aload_n (pc := 14) F dX2_join_14 rfl 0 rfl ?_
  refine z_iload_n (pc := 15) F dX2_join_15 rfl 1 rfl ?_
  refine z_iload_n (pc := 16) F dX2_join_16 rfl 2 rfl ?_
  refine z_iload_n (pc := 17) F dX2_join_17 rfl 3 rfl ?_
  refine z_callVW (pc := 18) (q0 := 0) (ci := 2) (rest := []) F (c_X2_addNode l E r S m op a b hm hmo hop) 3 ww_Plan_44 (by decide +kernel) rfl ⟨Nat.le_of_ble_eq_true rfl, Nat.le_of_ble_eq_true rfl⟩ ⟨Nat.le_of_ble_eq_true rfl, Nat.le_of_ble_eq_true rfl⟩ rfl rfl rfl rfl (Nat.le_of_ble_eq_true rfl) dX2_join_18 (fun v_ w1_ hp => ?_)
  obtain ⟨rfl, rfl⟩ := hp
  show Z X (0) (0) (plw E r (zI (zA (zA (zA S 1 m op) 2 m a) 3 m b) 0 (nI (m + 1)))) [(0, .ref (r 0)), (1, .int op), (2, .int a), (3, .int b)] 21 [.int (nI m)]
  exact z_iret (pc := 21) F hR dX2_join_21 (Nat.le_of_ble_eq_true rfl) (Nat.le_of_ble_eq_true rfl) ⟨rfl, rfl⟩
set_option maxHeartbeats 4000000 in
set_option maxRecDepth 100000 in
theorem c_X2_join_n (l : Launch) (E : zE) (r : Nat → Nat) (S : zS) (op : Int32) (a : Int32) (b : Int32) (hab : a = -1 ∨ b = -1) : Ct l yX2_join cX2_join 4 (some .int) ({ frames := 1, cells := 0, slots := 0, locals := 23 } : Room) E (plw E r S) [.ref (r 0), .int op, .int a, .int b] (fun v_ w_ => v_ = some (.int (-1)) ∧ w_ = plw E r S) := by
  refine Ct.of (by decide) (Nat.le_of_ble_eq_true rfl) (lv := [(0, .ref (r 0)), (1, .int op), (2, .int a), (3, .int b)]) rfl ?_
  intro X F hR
  have F : zF X l ({ frames := 1, cells := 0, slots := 0, locals := 23 } : Room) E cX2_join 4 "LiveQueries$Plan" := F
  refine z_iload_n (pc := 0) F dX2_join_0 rfl 2 rfl ?_
  refine z_iconst (pc := 1) (v := (-1)) F dX2_join_1 (by decide) ?_
  refine z_icmp_eq (pc := 2) (tgt := 10) F dX2_join_2 (by decide) (fun c2 => ?_) (fun c2 => ?_)
  · refine z_iconst (pc := 10) (v := (-1)) F dX2_join_10 (by decide) ?_
    refine z_goto (pc := 11) (tgt := 21) F dX2_join_11 (by decide) ?_
    exact z_iret (pc := 21) F hR dX2_join_21 (Nat.le_of_ble_eq_true rfl) (Nat.le_of_ble_eq_true rfl) ⟨rfl, rfl⟩
  · refine z_iload_n (pc := 5) F dX2_join_5 rfl 3 rfl ?_
    refine z_iconst (pc := 6) (v := (-1)) F dX2_join_6 (by decide) ?_
    refine z_icmp_ne (pc := 7) (tgt := 14) F dX2_join_7 (by decide) (fun c7 => ?_) (fun c7 => ?_)
    · exact absurd hab (fun h => h.elim c2 c7)
    · refine z_iconst (pc := 10) (v := (-1)) F dX2_join_10 (by decide) ?_
      refine z_goto (pc := 11) (tgt := 21) F dX2_join_11 (by decide) ?_
      exact z_iret (pc := 21) F hR dX2_join_21 (Nat.le_of_ble_eq_true rfl) (Nat.le_of_ble_eq_true rfl) ⟨rfl, rfl⟩
set_option maxHeartbeats 4000000 in
set_option maxRecDepth 100000 in
theorem c_X0_count (l : Launch) (E : zE) (r : Nat → Nat) (S : zS) (L : List zRow) : Ct l yX0_count cX0_count 1 (some .int) ({ frames := 0, cells := 0, slots := 0, locals := 0 } : Room) E (grw E r S) [.ref (r 0)] (fun v_ w_ => v_ = some (.int (zi S 0)) ∧ w_ = grw E r S) := by
  refine Ct.of (by decide) (Nat.le_of_ble_eq_true rfl) (lv := [(0, .ref (r 0))]) rfl ?_
  intro X F hR
  have F : zF X l ({ frames := 0, cells := 0, slots := 0, locals := 0 } : Room) E cX0_count 1 "LiveQueries$Groups" := F
  refine z_aload_n (pc := 0) F dX0_count_0 rfl 0 rfl ?_
  refine z_get (pc := 1) (v := .int (zi S 0)) F iX0 0 rfl rfl 4 (by decide) tw_249 rfl dX0_count_1 ?_
  exact z_iret (pc := 4) F hR dX0_count_4 (Nat.le_of_ble_eq_true rfl) (Nat.le_of_ble_eq_true rfl) ⟨rfl, rfl⟩
set_option maxHeartbeats 4000000 in
set_option maxRecDepth 100000 in
theorem c_X0_has (l : Launch) (E : zE) (r : Nat → Nat) (S : zS) (L : List zRow) (k : Nat) (hL : L.length ≤ 60) (hg : zi S 0 = nI L.length) (hk : k < 2 ^ 31) : Ct l yX0_has cX0_has 2 (some .boolean) ({ frames := 0, cells := 0, slots := 0, locals := 0 } : Room) E (grw E r S) [.ref (r 0), .int (nI k)] (fun v_ w_ => v_ = some (.int (bI (decide (k < L.length)))) ∧ w_ = grw E r S) := by
  refine Ct.of (by decide) (Nat.le_of_ble_eq_true rfl) (lv := [(0, .ref (r 0)), (1, .int (nI k))]) rfl ?_
  intro X F hR
  have F : zF X l ({ frames := 0, cells := 0, slots := 0, locals := 0 } : Room) E cX0_has 2 "LiveQueries$Groups" := F
  refine z_iload_n (pc := 0) F dX0_has_0 rfl 1 rfl ?_
  refine z_if_lt (pc := 1) (tgt := 16) F dX0_has_1 (by decide) (fun c1 => absurd c1 (nI_pos (by omega))) (fun c1 => ?_)
  refine z_iload_n (pc := 4) F dX0_has_4 rfl 1 rfl ?_
  refine z_aload_n (pc := 5) F dX0_has_5 rfl 0 rfl ?_
  refine z_get (pc := 6) (v := .int (zi S 0)) F iX0 0 rfl rfl 4 (by decide) tw_249 rfl dX0_has_6 ?_
  rw [show (zi S 0) = nI L.length from hg]
  refine z_icmp_ge (pc := 9) (tgt := 16) F dX0_has_9 (by decide) (fun c9 => ?_) (fun c9 => ?_)
  · refine z_iconst (pc := 16) (v := 0) F dX0_has_16 (by decide) ?_
    exact z_zret (pc := 17) F hR rfl dX0_has_17 (Nat.le_of_ble_eq_true rfl) (Nat.le_of_ble_eq_true rfl) ⟨by rw [show decide (k < L.length) = false from decide_eq_false (by have := gI (by omega) hk c9; omega)]; rfl, rfl⟩
  · refine z_iconst (pc := 12) (v := 1) F dX0_has_12 (by decide) ?_
    refine z_goto (pc := 13) (tgt := 17) F dX0_has_13 (by decide) ?_
    exact z_zret (pc := 17) F hR rfl dX0_has_17 (Nat.le_of_ble_eq_true rfl) (Nat.le_of_ble_eq_true rfl) ⟨by rw [show decide (k < L.length) = true from decide_eq_true (ngI (by omega) hk c9)]; rfl, rfl⟩
set_option maxHeartbeats 4000000 in
set_option maxRecDepth 100000 in
theorem c_X0_placeOf (l : Launch) (E : zE) (r : Nat → Nat) (S : zS) (L : List zRow) (v : Int64) (hL : L.length ≤ 60) (hg : zi S 0 = nI L.length) (hh : hoR L (za S 2) (zb S 1) (zb S 3) (zb S 4)) : Ct l yX0_placeOf cX0_placeOf 4 (some .int) ({ frames := 0, cells := 0, slots := 0, locals := 0 } : Room) E (grw E r S) [.ref (r 0), .long v] (fun v_ w_ => ∃ k : Nat, v_ = some (.int (nI k)) ∧ w_ = grw E r S ∧ (k ≤ L.length ∧ (∀ j y, L[j]? = some y → j < k → y.2.1 < v) ∧ (∀ y, L[k]? = some y → v ≤ y.2.1))) := by
  refine Ct.of (by decide) (Nat.le_of_ble_eq_true rfl) (lv := [(0, .ref (r 0)), (1, .long v)]) rfl ?_
  intro X F hR
  have F : zF X l ({ frames := 0, cells := 0, slots := 0, locals := 0 } : Room) E cX0_placeOf 4 "LiveQueries$Groups" := F
  refine z_iconst (pc := 0) (v := 0) F dX0_placeOf_0 (by decide) ?_
  refine z_istore_n (pc := 1) (lv' := [(0, .ref (r 0)), (1, .long v), (3, .int 0)]) F dX0_placeOf_1 rfl (by decide) [1, 2, 0] rfl ?_
  have L2 : ∀ (N : Nat) (i : Nat), (L.length - i) < N → (i ≤ L.length) → (∀ j y, L[j]? = some y → j < i → y.2.1 < v) → Z X (0) (0) (grw E r S) [(0, .ref (r 0)), (1, .long v), (3, .int (nI i))] 2 [] := by
    intro N
    induction N with
    | zero => intro i hN; exact absurd hN (Nat.not_lt_zero _)
    | succ N ih2 =>
      intro i hN hi hb
      refine z_iload_n (pc := 2) F dX0_placeOf_2 rfl 2 rfl ?_
      refine z_aload_n (pc := 3) F dX0_placeOf_3 rfl 0 rfl ?_
      refine z_get (pc := 4) (v := .int (zi S 0)) F iX0 0 rfl rfl 4 (by decide) tw_249 rfl dX0_placeOf_4 ?_
      rw [show (zi S 0) = nI L.length from hg]
      refine z_icmp_ge (pc := 7) (tgt := 29) F dX0_placeOf_7 (by decide) (fun c7 => ?_) (fun c7 => ?_)
      · have hie : i = L.length := Nat.le_antisymm hi (gI (by omega) (by omega) c7)
        subst hie
        refine z_aload_n (pc := 29) F dX0_placeOf_29 rfl 0 rfl ?_
        refine z_get (pc := 30) (v := .int (zi S 0)) F iX0 0 rfl rfl 4 (by decide) tw_249 rfl dX0_placeOf_30 ?_
        rw [show (zi S 0) = nI L.length from hg]
        exact z_iret (pc := 33) F hR dX0_placeOf_33 (Nat.le_of_ble_eq_true rfl) (Nat.le_of_ble_eq_true rfl) ⟨L.length, rfl, rfl, Nat.le_refl _, hb, fun y hy => absurd hy (by simp)⟩
      · have hil := ngI (by omega) (by omega) c7
        refine z_aload_n (pc := 10) F dX0_placeOf_10 rfl 0 rfl ?_
        refine z_get (pc := 11) (v := .ref (r 1)) F iX0 0 rfl rfl 0 (by decide) tw_245 rfl dX0_placeOf_11 ?_
        refine z_iload_n (pc := 14) F dX0_placeOf_14 rfl 2 rfl ?_
        refine z_laldN (pc := 15) (f := zb S 1) F 1 1 rfl rfl i rfl (by omega) (by decide) dX0_placeOf_15 ?_
        refine z_lload_n (pc := 16) F dX0_placeOf_16 rfl 1 rfl ?_
        refine z_l_lt (pc := 17) (tgt := 23) F dX0_placeOf_17 dX0_placeOf_18 (by decide) (fun c17 => ?_) (fun c17 => ?_)
        · refine z_iinc (pc := 23) (v := nI (i + 1)) (lv' := [(0, .ref (r 0)), (1, .long v), (3, .int (nI (i + 1)))]) F (j := 2) dX0_placeOf_23 rfl (nI_1 _) (by decide) [1, 2, 0] rfl ?_
          refine z_goto (pc := 26) (tgt := 2) F dX0_placeOf_26 (by decide) ?_
          exact ih2 (i + 1) (by omega) (by omega) (fun j y hy hj => by
      rcases Nat.lt_or_ge j i with z | z
      · exact hb j y hy z
      · have e : j = i := by omega
        subst e; rw [← (hh j y hy).2.1]; exact c17)
        · refine z_iload_n (pc := 21) F dX0_placeOf_21 rfl 2 rfl ?_
          exact z_iret (pc := 22) F hR dX0_placeOf_22 (Nat.le_of_ble_eq_true rfl) (Nat.le_of_ble_eq_true rfl) ⟨i, rfl, rfl, hi, hb, fun y hy => by rw [← (hh i y hy).2.1]; exact l_nlt c17⟩
  exact L2 _ 0 (Nat.lt_succ_self _) (Nat.zero_le _) (fun j y _ h => absurd h (Nat.not_lt_zero _))
set_option maxHeartbeats 4000000 in
set_option maxRecDepth 100000 in
theorem c_X0_copy (l : Launch) (E : zE) (r : Nat → Nat) (S : zS) (f : Nat) (t : Nat) (hf : f < 60) (ht : t < 60) : Ct l yX0_copy cX0_copy 3 (none) ({ frames := 0, cells := 0, slots := 0, locals := 0 } : Room) E (grw E r S) [.ref (r 0), .int (nI f), .int (nI t)] (fun v_ w_ => v_ = none ∧ w_ = grw E r (zB (zB (zA (zB S 1 t (zb S 1 f)) 2 t (za S 2 f)) 3 t (zb S 3 f)) 4 t (zb S 4 f))) := by
  refine Ct.of (by decide) (Nat.le_of_ble_eq_true rfl) (lv := [(0, .ref (r 0)), (1, .int (nI f)), (2, .int (nI t))]) rfl ?_
  intro X F hR
  have F : zF X l ({ frames := 0, cells := 0, slots := 0, locals := 0 } : Room) E cX0_copy 3 "LiveQueries$Groups" := F
  refine z_aload_n (pc := 0) F dX0_copy_0 rfl 0 rfl ?_
  refine z_get (pc := 1) (v := .ref (r 1)) F iX0 0 rfl rfl 0 (by decide) tw_245 rfl dX0_copy_1 ?_
  refine z_iload_n (pc := 4) F dX0_copy_4 rfl 2 rfl ?_
  refine z_aload_n (pc := 5) F dX0_copy_5 rfl 0 rfl ?_
  refine z_get (pc := 6) (v := .ref (r 1)) F iX0 0 rfl rfl 0 (by decide) tw_245 rfl dX0_copy_6 ?_
  refine z_iload_n (pc := 9) F dX0_copy_9 rfl 1 rfl ?_
  refine z_laldN (pc := 10) (f := zb S 1) F 1 1 rfl rfl f rfl (by omega) (by decide) dX0_copy_10 ?_
  refine z_lastN (pc := 11) (ws' := grw E r (zB S 1 t (zb S 1 f))) (f := zb S 1) F 1 1 rfl rfl t rfl (by omega) (by decide) dX0_copy_11 rfl ?_
  refine z_aload_n (pc := 12) F dX0_copy_12 rfl 0 rfl ?_
  refine z_get (pc := 13) (v := .ref (r 2)) F iX0 0 rfl rfl 1 (by decide) tw_246 rfl dX0_copy_13 ?_
  refine z_iload_n (pc := 16) F dX0_copy_16 rfl 2 rfl ?_
  refine z_aload_n (pc := 17) F dX0_copy_17 rfl 0 rfl ?_
  refine z_get (pc := 18) (v := .ref (r 2)) F iX0 0 rfl rfl 1 (by decide) tw_246 rfl dX0_copy_18 ?_
  refine z_iload_n (pc := 21) F dX0_copy_21 rfl 1 rfl ?_
  refine z_ialdN (pc := 22) (f := za S 2) F 2 0 rfl rfl f rfl (by omega) (by decide) dX0_copy_22 ?_
  refine z_iastN (pc := 23) (ws' := grw E r (zA (zB S 1 t (zb S 1 f)) 2 t (za S 2 f))) (f := za S 2) F 2 0 rfl rfl t rfl (by omega) (by decide) dX0_copy_23 rfl ?_
  refine z_aload_n (pc := 24) F dX0_copy_24 rfl 0 rfl ?_
  refine z_get (pc := 25) (v := .ref (r 3)) F iX0 0 rfl rfl 2 (by decide) tw_247 rfl dX0_copy_25 ?_
  refine z_iload_n (pc := 28) F dX0_copy_28 rfl 2 rfl ?_
  refine z_aload_n (pc := 29) F dX0_copy_29 rfl 0 rfl ?_
  refine z_get (pc := 30) (v := .ref (r 3)) F iX0 0 rfl rfl 2 (by decide) tw_247 rfl dX0_copy_30 ?_
  refine z_iload_n (pc := 33) F dX0_copy_33 rfl 1 rfl ?_
  refine z_laldN (pc := 34) (f := zb S 3) F 3 1 rfl rfl f rfl (by omega) (by decide) dX0_copy_34 ?_
  refine z_lastN (pc := 35) (ws' := grw E r (zB (zA (zB S 1 t (zb S 1 f)) 2 t (za S 2 f)) 3 t (zb S 3 f))) (f := zb S 3) F 3 1 rfl rfl t rfl (by omega) (by decide) dX0_copy_35 rfl ?_
  refine z_aload_n (pc := 36) F dX0_copy_36 rfl 0 rfl ?_
  refine z_get (pc := 37) (v := .ref (r 4)) F iX0 0 rfl rfl 3 (by decide) tw_248 rfl dX0_copy_37 ?_
  refine z_iload_n (pc := 40) F dX0_copy_40 rfl 2 rfl ?_
  refine z_aload_n (pc := 41) F dX0_copy_41 rfl 0 rfl ?_
  refine z_get (pc := 42) (v := .ref (r 4)) F iX0 0 rfl rfl 3 (by decide) tw_248 rfl dX0_copy_42 ?_
  refine z_iload_n (pc := 45) F dX0_copy_45 rfl 1 rfl ?_
  refine z_laldN (pc := 46) (f := zb S 4) F 4 1 rfl rfl f rfl (by omega) (by decide) dX0_copy_46 ?_
  refine z_lastN (pc := 47) (ws' := grw E r (zB (zB (zA (zB S 1 t (zb S 1 f)) 2 t (za S 2 f)) 3 t (zb S 3 f)) 4 t (zb S 4 f))) (f := zb S 4) F 4 1 rfl rfl t rfl (by omega) (by decide) dX0_copy_47 rfl ?_
  exact z_vret (pc := 48) F hR dX0_copy_48 (Nat.le_of_ble_eq_true rfl) (Nat.le_of_ble_eq_true rfl) ⟨rfl, rfl⟩

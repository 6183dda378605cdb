set_option maxHeartbeats 4000000 in
set_option maxRecDepth 100000 in
theorem c_X8_within (l : Launch) (E : zE) (x : Int32) (low : Int32) (high : Int32) : Ct l yX8_within cX8_within 3 (some .boolean) ({ frames := 0, cells := 0, slots := 0, locals := 0 } : Room) E ([]) [.int x, .int low, .int high] (fun v_ w_ => v_ = some (.int (bI (decide (low ≤ x ∧ x ≤ high)))) ∧ w_ = []) := by
  refine Ct.of (by decide) (Nat.le_of_ble_eq_true rfl) (lv := [(0, .int x), (1, .int low), (2, .int high)]) rfl ?_
  intro X F hR
  have F : zF X l ({ frames := 0, cells := 0, slots := 0, locals := 0 } : Room) E cX8_within 3 "LiveQueriesModel" := F
  refine z_iload_n (pc := 0) F dX8_within_0 rfl 0 rfl ?_
  refine z_iload_n (pc := 1) F dX8_within_1 rfl 1 rfl ?_
  refine z_icmp_lt (pc := 2) (tgt := 14) F dX8_within_2 (by decide) (fun c2 => ?_) (fun c2 => ?_)
  · refine z_iconst (pc := 14) (v := 0) F dX8_within_14 (by decide) ?_
    exact z_zret (pc := 15) F hR rfl dX8_within_15 (Nat.le_of_ble_eq_true rfl) (Nat.le_of_ble_eq_true rfl) ⟨by rw [bw0 (by first | exact Or.inl c2 | exact Or.inr c7)], rfl⟩
  · have c2 : low ≤ x := by rw [Int32.le_iff_toInt_le]; rw [Int32.lt_iff_toInt_lt] at c2; omega
    refine z_iload_n (pc := 5) F dX8_within_5 rfl 0 rfl ?_
    refine z_iload_n (pc := 6) F dX8_within_6 rfl 2 rfl ?_
    refine z_icmp_gt (pc := 7) (tgt := 14) F dX8_within_7 (by decide) (fun c7 => ?_) (fun c7 => ?_)
    · refine z_iconst (pc := 14) (v := 0) F dX8_within_14 (by decide) ?_
      exact z_zret (pc := 15) F hR rfl dX8_within_15 (Nat.le_of_ble_eq_true rfl) (Nat.le_of_ble_eq_true rfl) ⟨by rw [bw0 (by first | exact Or.inl c2 | exact Or.inr c7)], rfl⟩
    · have c7 : x ≤ high := by rw [Int32.le_iff_toInt_le]; rw [Int32.lt_iff_toInt_lt] at c7; omega
      refine z_iconst (pc := 10) (v := 1) F dX8_within_10 (by decide) ?_
      refine z_goto (pc := 11) (tgt := 15) F dX8_within_11 (by decide) ?_
      exact z_zret (pc := 15) F hR rfl dX8_within_15 (Nat.le_of_ble_eq_true rfl) (Nat.le_of_ble_eq_true rfl) ⟨by rw [bw1 c2 c7], rfl⟩
set_option maxHeartbeats 4000000 in
set_option maxRecDepth 100000 in
theorem c_X8_thrown (l : Launch) (E : zE) (r : Nat → Nat) (S : zS) : Ct l yX8_thrown cX8_thrown 1 (some .int) ({ frames := 0, cells := 0, slots := 0, locals := 0 } : Room) E (mw E r S) [.ref (r 0)] (fun v_ w_ => v_ = some (.int (zi S 0)) ∧ w_ = mw E r S) := by
  refine Ct.of (by decide) (Nat.le_of_ble_eq_true rfl) (lv := [(0, .ref (r 0))]) rfl ?_
  intro X F hR
  have F : zF X l ({ frames := 0, cells := 0, slots := 0, locals := 0 } : Room) E cX8_thrown 1 "LiveQueriesModel" := F
  refine z_aload_n (pc := 0) F dX8_thrown_0 rfl 0 rfl ?_
  refine z_get (pc := 1) (v := .int (zi S 0)) F iX8 0 rfl rfl 0 (by decide) tw_858 rfl dX8_thrown_1 ?_
  exact z_iret (pc := 4) F hR dX8_thrown_4 (Nat.le_of_ble_eq_true rfl) (Nat.le_of_ble_eq_true rfl) ⟨rfl, rfl⟩
set_option maxHeartbeats 4000000 in
set_option maxRecDepth 100000 in
theorem c_X8_isThere (l : Launch) (E : zE) (r : Nat → Nat) (S : zS) (m : Nat) (o : Int32) (hm : m ≤ 60) (ho : zi S 2 = nI m) : Ct l yX8_isThere cX8_isThere 2 (some .boolean) ({ frames := 1, cells := 0, slots := 0, locals := 22 } : Room) E (mw E r S) [.ref (r 0), .int o] (fun v_ w_ => v_ = some (.int (bI (thB m (za S 2) o))) ∧ w_ = mw E r S) := by
  refine Ct.of (by decide) (Nat.le_of_ble_eq_true rfl) (lv := [(0, .ref (r 0)), (1, .int o)]) rfl ?_
  intro X F hR
  have F : zF X l ({ frames := 1, cells := 0, slots := 0, locals := 22 } : Room) E cX8_isThere 2 "LiveQueriesModel" := F
  refine z_iload_n (pc := 0) F dX8_isThere_0 rfl 1 rfl ?_
  refine z_iconst (pc := 1) (v := 0) F dX8_isThere_1 (by decide) ?_
  refine z_aload_n (pc := 2) F dX8_isThere_2 rfl 0 rfl ?_
  refine z_get (pc := 3) (v := .int (zi S 2)) F iX8 0 rfl rfl 3 (by decide) tw_861 rfl dX8_isThere_3 ?_
  rw [show (zi S 2) = nI m from ho]
  refine z_iconst (pc := 6) (v := 1) F dX8_isThere_6 (by decide) ?_
  refine z_isub (pc := 7) F dX8_isThere_7 ?_
  refine z_callS0 (pc := 8) (rest := []) F (c_X8_within l E o 0 ((nI m) - 1)) 3 ww_Model_97 (by decide +kernel) rfl ⟨Nat.le_of_ble_eq_true rfl, Nat.le_of_ble_eq_true rfl⟩ ⟨Nat.le_of_ble_eq_true rfl, Nat.le_of_ble_eq_true rfl⟩ rfl (Nat.le_of_ble_eq_true rfl) dX8_isThere_8 (fun v_ w1_ hp => ?_)
  obtain ⟨rfl, rfl⟩ := hp
  show Z X (0) (0) (mw E r S) [(0, .ref (r 0)), (1, .int o)] 11 [.int (bI (decide (0 ≤ o ∧ o ≤ ((nI m) - 1))))]
  refine z_if_eq (pc := 11) (tgt := 27) F dX8_isThere_11 (by decide) (fun c11 => ?_) (fun c11 => ?_)
  · replace c11 := bI_f c11
    have c11 := wi_no (by omega) c11
    refine z_iconst (pc := 27) (v := 0) F dX8_isThere_27 (by decide) ?_
    exact z_zret (pc := 28) F hR rfl dX8_isThere_28 (Nat.le_of_ble_eq_true rfl) (Nat.le_of_ble_eq_true rfl) ⟨by rw [thB_no (by omega) c11]; rfl, rfl⟩
  · replace c11 := bI_t c11
    obtain ⟨j, hj, rfl⟩ := wi_ix (by omega) c11
    refine z_aload_n (pc := 14) F dX8_isThere_14 rfl 0 rfl ?_
    refine z_get (pc := 15) (v := .ref (r 2)) F iX8 0 rfl rfl 4 (by decide) tw_862 rfl dX8_isThere_15 ?_
    refine z_iload_n (pc := 18) F dX8_isThere_18 rfl 1 rfl ?_
    refine z_zaldN (pc := 19) (f := za S 2) F 2 2 rfl rfl j rfl (by omega) (by decide) dX8_isThere_19 ?_
    refine z_if_eq (pc := 20) (tgt := 27) F dX8_isThere_20 (by decide) (fun c20 => ?_) (fun c20 => ?_)
    · refine z_iconst (pc := 27) (v := 0) F dX8_isThere_27 (by decide) ?_
      exact z_zret (pc := 28) F hR rfl dX8_isThere_28 (Nat.le_of_ble_eq_true rfl) (Nat.le_of_ble_eq_true rfl) ⟨by rw [thB_nI (by omega) hj, show decide (¬ za S 2 j = 0) = false from by simp [c20]]; rfl, rfl⟩
    · refine z_iconst (pc := 23) (v := 1) F dX8_isThere_23 (by decide) ?_
      refine z_goto (pc := 24) (tgt := 28) F dX8_isThere_24 (by decide) ?_
      exact z_zret (pc := 28) F hR rfl dX8_isThere_28 (Nat.le_of_ble_eq_true rfl) (Nat.le_of_ble_eq_true rfl) ⟨by rw [thB_nI (by omega) hj, show decide (¬ za S 2 j = 0) = true from by simp [c20]]; rfl, rfl⟩

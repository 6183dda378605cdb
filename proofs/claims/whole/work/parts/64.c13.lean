set_option maxHeartbeats 4000000 in
set_option maxRecDepth 100000 in
theorem c_X6_isNode (l : Launch) (E : zE) (i : Int32) : Ct l yX6_isNode cX6_isNode 1 (some .boolean) ({ frames := 0, cells := 0, slots := 0, locals := 0 } : Room) E ([]) [.int i] (fun v_ w_ => v_ = some (.int (bI (decide (¬ i < 0 ∧ ¬ 80 ≤ i)))) ∧ w_ = []) := by
  refine Ct.of (by decide) (Nat.le_of_ble_eq_true rfl) (lv := [(0, .int i)]) rfl ?_
  intro X F hR
  have F : zF X l ({ frames := 0, cells := 0, slots := 0, locals := 0 } : Room) E cX6_isNode 1 "LiveQueries$Worker" := F
  refine z_iload_n (pc := 0) F dX6_isNode_0 rfl 0 rfl ?_
  refine z_if_lt (pc := 1) (tgt := 14) F dX6_isNode_1 (by decide) (fun c1 => ?_) (fun c1 => ?_)
  · refine z_iconst (pc := 14) (v := 0) F dX6_isNode_14 (by decide) ?_
    exact z_zret (pc := 15) F hR rfl dX6_isNode_15 (Nat.le_of_ble_eq_true rfl) (Nat.le_of_ble_eq_true rfl) ⟨by rw [decide_eq_false (by first | exact fun h => h.1 c1 | exact fun h => h.2 c7)]; rfl, rfl⟩
  · refine z_iload_n (pc := 4) F dX6_isNode_4 rfl 0 rfl ?_
    refine z_bipush (pc := 5) (v := 80) F dX6_isNode_5 (by decide) ?_
    refine z_icmp_ge (pc := 7) (tgt := 14) F dX6_isNode_7 (by decide) (fun c7 => ?_) (fun c7 => ?_)
    · refine z_iconst (pc := 14) (v := 0) F dX6_isNode_14 (by decide) ?_
      exact z_zret (pc := 15) F hR rfl dX6_isNode_15 (Nat.le_of_ble_eq_true rfl) (Nat.le_of_ble_eq_true rfl) ⟨by rw [decide_eq_false (by first | exact fun h => h.1 c1 | exact fun h => h.2 c7)]; rfl, rfl⟩
    · refine z_iconst (pc := 10) (v := 1) F dX6_isNode_10 (by decide) ?_
      refine z_goto (pc := 11) (tgt := 15) F dX6_isNode_11 (by decide) ?_
      exact z_zret (pc := 15) F hR rfl dX6_isNode_15 (Nat.le_of_ble_eq_true rfl) (Nat.le_of_ble_eq_true rfl) ⟨by rw [decide_eq_true ⟨c1, c7⟩]; rfl, rfl⟩
set_option maxHeartbeats 4000000 in
set_option maxRecDepth 100000 in
theorem c_X6_note (l : Launch) (E : zE) (r : Nat → Nat) (rs : Nat → Nat) (S : zS) (SS : zS) (h : Int64) (ab : Int32) (va : Nat → Int64) (an : Nat → Int32) (o : Nat) : Ct l yX6_note cX6_note 2 (none) ({ frames := 0, cells := 0, slots := 0, locals := 0 } : Room) E (wkw E r (rs 0) (mwv S h ab va an) ++ sw E rs SS) [.ref (r 0), .int (nI o)] (fun v_ w_ => v_ = none ∧ w_ = wkw E r (rs 0) (mwv S (note h o) ab va an) ++ sw E rs SS) := by
  refine Ct.of (by decide) (Nat.le_of_ble_eq_true rfl) (lv := [(0, .ref (r 0)), (1, .int (nI o))]) rfl ?_
  intro X F hR
  have F : zF X l ({ frames := 0, cells := 0, slots := 0, locals := 0 } : Room) E cX6_note 2 "LiveQueries$Worker" := F
  refine z_aload_n (pc := 0) F dX6_note_0 rfl 0 rfl ?_
  refine z_dup (pc := 1) F dX6_note_1 rfl ?_
  refine z_get (pc := 2) (v := .long h) F iX6 0 rfl rfl 3 (by decide) tw_168 rfl dX6_note_2 ?_
  refine z_lconst (pc := 5) (v := 1) F dX6_note_5 (by decide) ?_
  refine z_iload_n (pc := 6) F dX6_note_6 rfl 1 rfl ?_
  refine z_lshl (pc := 7) F dX6_note_7 ?_
  refine z_lor (pc := 8) F dX6_note_8 ?_
  refine z_put (pc := 9) (ws' := wkw E r (rs 0) (mwv S (h ||| (1 <<< ((nI o).toInt64 &&& 63))) ab va an) ++ sw E rs SS) F iX6 tyX6 tyX6_ok nmX6 0 rfl rfl 3 (by decide) tw_168 rfl rfl rfl (Nat.le_of_ble_eq_true rfl) dX6_note_9 rfl ?_
  exact z_vret (pc := 12) F hR dX6_note_12 (Nat.le_of_ble_eq_true rfl) (Nat.le_of_ble_eq_true rfl) ⟨rfl, rfl⟩
set_option maxHeartbeats 4000000 in
set_option maxRecDepth 100000 in
theorem c_X6_missing (l : Launch) (E : zE) (r : Nat → Nat) (rs : Nat → Nat) (S : zS) (SS : zS) (h : Int64) (ab : Int32) (va : Nat → Int64) (an : Nat → Int32) (i : Nat) (hi : i < 80) : Ct l yX6_missing cX6_missing 2 (some .long) ({ frames := 0, cells := 0, slots := 0, locals := 0 } : Room) E (wkw E r (rs 0) (mwv S h ab va an) ++ sw E rs SS) [.ref (r 0), .int (nI i)] (fun v_ w_ => v_ = some (.long 0) ∧ w_ = wkw E r (rs 0) (mwv S h ab va (upd an i 1)) ++ sw E rs SS) := by
  refine Ct.of (by decide) (Nat.le_of_ble_eq_true rfl) (lv := [(0, .ref (r 0)), (1, .int (nI i))]) rfl ?_
  intro X F hR
  have F : zF X l ({ frames := 0, cells := 0, slots := 0, locals := 0 } : Room) E cX6_missing 2 "LiveQueries$Worker" := F
  refine z_aload_n (pc := 0) F dX6_missing_0 rfl 0 rfl ?_
  refine z_get (pc := 1) (v := .ref (r 2)) F iX6 0 rfl rfl 2 (by decide) tw_167 rfl dX6_missing_1 ?_
  refine z_iload_n (pc := 4) F dX6_missing_4 rfl 1 rfl ?_
  refine z_iconst (pc := 5) (v := 1) F dX6_missing_5 (by decide) ?_
  refine z_zastN (pc := 6) (ws' := wkw E r (rs 0) (mwv S h ab va (upd an i 1)) ++ sw E rs SS) (f := an) F 2 2 rfl rfl i rfl (by omega) (by decide) rfl dX6_missing_6 rfl ?_
  refine z_lconst (pc := 7) (v := 0) F dX6_missing_7 (by decide) ?_
  exact z_lret (pc := 8) F hR dX6_missing_8 (Nat.le_of_ble_eq_true rfl) (Nat.le_of_ble_eq_true rfl) ⟨rfl, rfl⟩
set_option maxHeartbeats 4000000 in
set_option maxRecDepth 100000 in
theorem c_X6_seen (l : Launch) (E : zE) (r : Nat → Nat) (rs : Nat → Nat) (S : zS) (SS : zS) (h : Int64) (ab : Int32) (va : Nat → Int64) (an : Nat → Int32) : Ct l yX6_seen cX6_seen 1 (some .long) ({ frames := 0, cells := 0, slots := 0, locals := 0 } : Room) E (wkw E r (rs 0) (mwv S h ab va an) ++ sw E rs SS) [.ref (r 0)] (fun v_ w_ => v_ = some (.long h) ∧ w_ = wkw E r (rs 0) (mwv S h ab va an) ++ sw E rs SS) := by
  refine Ct.of (by decide) (Nat.le_of_ble_eq_true rfl) (lv := [(0, .ref (r 0))]) rfl ?_
  intro X F hR
  have F : zF X l ({ frames := 0, cells := 0, slots := 0, locals := 0 } : Room) E cX6_seen 1 "LiveQueries$Worker" := F
  refine z_aload_n (pc := 0) F dX6_seen_0 rfl 0 rfl ?_
  refine z_get (pc := 1) (v := .long h) F iX6 0 rfl rfl 3 (by decide) tw_168 rfl dX6_seen_1 ?_
  exact z_lret (pc := 4) F hR dX6_seen_4 (Nat.le_of_ble_eq_true rfl) (Nat.le_of_ble_eq_true rfl) ⟨rfl, rfl⟩
set_option maxHeartbeats 4000000 in
set_option maxRecDepth 100000 in
theorem c_X6_isAnyAbsent (l : Launch) (E : zE) (r : Nat → Nat) (rs : Nat → Nat) (S : zS) (SS : zS) (h : Int64) (va : Nat → Int64) (an : Nat → Int32) (bb : Bool) : Ct l yX6_isAnyAbsent cX6_isAnyAbsent 1 (some .boolean) ({ frames := 0, cells := 0, slots := 0, locals := 0 } : Room) E (wkw E r (rs 0) (mwv S h (bI bb) va an) ++ sw E rs SS) [.ref (r 0)] (fun v_ w_ => v_ = some (.int (bI bb)) ∧ w_ = wkw E r (rs 0) (mwv S h (bI bb) va an) ++ sw E rs SS) := by
  refine Ct.of (by decide) (Nat.le_of_ble_eq_true rfl) (lv := [(0, .ref (r 0))]) rfl ?_
  intro X F hR
  have F : zF X l ({ frames := 0, cells := 0, slots := 0, locals := 0 } : Room) E cX6_isAnyAbsent 1 "LiveQueries$Worker" := F
  refine z_aload_n (pc := 0) F dX6_isAnyAbsent_0 rfl 0 rfl ?_
  refine z_get (pc := 1) (v := .int (bI bb)) F iX6 0 rfl rfl 4 (by decide) tw_169 rfl dX6_isAnyAbsent_1 ?_
  exact z_zret (pc := 4) F hR (bI_nb _) dX6_isAnyAbsent_4 (Nat.le_of_ble_eq_true rfl) (Nat.le_of_ble_eq_true rfl) ⟨rfl, rfl⟩
set_option maxHeartbeats 4000000 in
set_option maxRecDepth 100000 in
theorem c_X6_valueOr_y (l : Launch) (E : zE) (r : Nat → Nat) (rs : Nat → Nat) (S : zS) (SS : zS) (h : Int64) (ab : Int32) (va : Nat → Int64) (an : Nat → Int32) (i : Nat) (w : Int64) (hi : i < 80) : Ct l yX6_valueOr cX6_valueOr 4 (some .long) ({ frames := 1, cells := 0, slots := 0, locals := 30 } : Room) E (wkw E r (rs 0) (mwv S h ab va an) ++ sw E rs SS) [.ref (r 0), .int (nI i), .long w] (fun v_ w_ => v_ = some (.long (va i)) ∧ w_ = wkw E r (rs 0) (mwv S h ab va an) ++ sw E rs SS) := by
  refine Ct.of (by decide) (Nat.le_of_ble_eq_true rfl) (lv := [(0, .ref (r 0)), (1, .int (nI i)), (2, .long w)]) rfl ?_
  intro X F hR
  have F : zF X l ({ frames := 1, cells := 0, slots := 0, locals := 30 } : Room) E cX6_valueOr 4 "LiveQueries$Worker" := F
  refine z_iload_n (pc := 0) F dX6_valueOr_0 rfl 1 rfl ?_
  refine z_callS0 (pc := 1) (rest := []) F (c_X6_isNode l E (nI i)) 1 ww_Worker_64 (by decide +kernel) rfl ⟨Nat.le_of_ble_eq_true rfl, Nat.le_of_ble_eq_true rfl⟩ ⟨Nat.le_of_ble_eq_true rfl, Nat.le_of_ble_eq_true rfl⟩ rfl (Nat.le_of_ble_eq_true rfl) dX6_valueOr_1 (fun v_ w1_ hp => ?_)
  obtain ⟨rfl, rfl⟩ := hp
  show Z X (0) (0) (wkw E r (rs 0) (mwv S h ab va an) ++ sw E rs SS) [(0, .ref (r 0)), (1, .int (nI i)), (2, .long w)] 4 [.int (bI (decide (¬ (nI i) < 0 ∧ ¬ 80 ≤ (nI i))))]
  rw [show (bI (decide (¬ (nI i) < 0 ∧ ¬ 80 ≤ (nI i)))) = 1 from (by rw [isN_t hi]; rfl)]
  refine z_if_eq (pc := 4) (tgt := 16) F dX6_valueOr_4 (by decide) (fun h => absurd h (by decide)) (fun _ => ?_)
  refine z_aload_n (pc := 7) F dX6_valueOr_7 rfl 0 rfl ?_
  refine z_get (pc := 8) (v := .ref (r 1)) F iX6 0 rfl rfl 1 (by decide) tw_166 rfl dX6_valueOr_8 ?_
  refine z_iload_n (pc := 11) F dX6_valueOr_11 rfl 1 rfl ?_
  refine z_laldN (pc := 12) (f := va) F 1 1 rfl rfl i rfl (by omega) (by decide) dX6_valueOr_12 ?_
  refine z_goto (pc := 13) (tgt := 17) F dX6_valueOr_13 (by decide) ?_
  exact z_lret (pc := 17) F hR dX6_valueOr_17 (Nat.le_of_ble_eq_true rfl) (Nat.le_of_ble_eq_true rfl) ⟨rfl, rfl⟩
set_option maxHeartbeats 4000000 in
set_option maxRecDepth 100000 in
theorem c_X6_valueOr_n (l : Launch) (E : zE) (r : Nat → Nat) (rs : Nat → Nat) (S : zS) (SS : zS) (h : Int64) (ab : Int32) (va : Nat → Int64) (an : Nat → Int32) (w : Int64) : Ct l yX6_valueOr cX6_valueOr 4 (some .long) ({ frames := 1, cells := 0, slots := 0, locals := 30 } : Room) E (wkw E r (rs 0) (mwv S h ab va an) ++ sw E rs SS) [.ref (r 0), .int (-1), .long w] (fun v_ w_ => v_ = some (.long w) ∧ w_ = wkw E r (rs 0) (mwv S h ab va an) ++ sw E rs SS) := by
  refine Ct.of (by decide) (Nat.le_of_ble_eq_true rfl) (lv := [(0, .ref (r 0)), (1, .int (-1)), (2, .long w)]) rfl ?_
  intro X F hR
  have F : zF X l ({ frames := 1, cells := 0, slots := 0, locals := 30 } : Room) E cX6_valueOr 4 "LiveQueries$Worker" := F
  refine z_iload_n (pc := 0) F dX6_valueOr_0 rfl 1 rfl ?_
  refine z_callS0 (pc := 1) (rest := []) F (c_X6_isNode l E (-1)) 1 ww_Worker_64 (by decide +kernel) rfl ⟨Nat.le_of_ble_eq_true rfl, Nat.le_of_ble_eq_true rfl⟩ ⟨Nat.le_of_ble_eq_true rfl, Nat.le_of_ble_eq_true rfl⟩ rfl (Nat.le_of_ble_eq_true rfl) dX6_valueOr_1 (fun v_ w1_ hp => ?_)
  obtain ⟨rfl, rfl⟩ := hp
  show Z X (0) (0) (wkw E r (rs 0) (mwv S h ab va an) ++ sw E rs SS) [(0, .ref (r 0)), (1, .int (-1)), (2, .long w)] 4 [.int (bI (decide (¬ (-1) < 0 ∧ ¬ 80 ≤ (-1))))]
  rw [isN_f]
  show Z X (0) (0) (wkw E r (rs 0) (mwv S h ab va an) ++ sw E rs SS) [(0, .ref (r 0)), (1, .int (-1)), (2, .long w)] 4 [.int 0]
  refine z_if_eq (pc := 4) (tgt := 16) F dX6_valueOr_4 (by decide) (fun _ => ?_) (fun h => absurd h (by decide))
  refine z_lload_n (pc := 16) F dX6_valueOr_16 rfl 2 rfl ?_
  exact z_lret (pc := 17) F hR dX6_valueOr_17 (Nat.le_of_ble_eq_true rfl) (Nat.le_of_ble_eq_true rfl) ⟨rfl, rfl⟩
set_option maxHeartbeats 4000000 in
set_option maxRecDepth 100000 in
theorem c_X6_walk (l : Launch) (E : zE) (r : Nat → Nat) (rs : Nat → Nat) (S : zS) (SS : zS) (h : Int64) (ab : Int32) (va : Nat → Int64) (an : Nat → Int32) (m : Nat) (ro : Nat) (k : Nat) (hs : stOk SS m) (hrm : ro < m) (hrt : ¬ za SS 1 ro = 0) (hk : k < 1000) : Ct l yX6_walk cX6_walk 5 (some .int) ({ frames := 2, cells := 0, slots := 0, locals := 80 } : Room) E (wkw E r (rs 0) (mwv S h ab va an) ++ sw E rs SS) [.ref (r 0), .int (nI ro), .int (nI k)] (fun v_ w_ => v_ = some (.int (oI (wlk SS k (some ro) h).1)) ∧ w_ = wkw E r (rs 0) (mwv S ((wlk SS k (some ro) h).2) ab va an) ++ sw E rs SS) := by
  refine Ct.of (by decide) (Nat.le_of_ble_eq_true rfl) (lv := [(0, .ref (r 0)), (1, .int (nI ro)), (2, .int (nI k))]) rfl ?_
  intro X F hR
  have F : zF X l ({ frames := 2, cells := 0, slots := 0, locals := 80 } : Room) E cX6_walk 5 "LiveQueries$Worker" := F
  have hm6 := hs.1
  have hmo := hs.2.1
  refine z_iload_n (pc := 0) F dX6_walk_0 rfl 1 rfl ?_
  refine z_istore_n (pc := 1) (lv' := [(0, .ref (r 0)), (1, .int (nI ro)), (2, .int (nI k)), (3, .int (nI ro))]) F dX6_walk_1 rfl (by decide) [1, 2, 3, 0] rfl ?_
  refine z_iconst (pc := 2) (v := 0) F dX6_walk_2 (by decide) ?_
  refine z_istore (pc := 3) (lv' := [(0, .ref (r 0)), (1, .int (nI ro)), (2, .int (nI k)), (3, .int (nI ro)), (4, .int 0)]) F dX6_walk_3 (by decide) [1, 2, 3, 4, 0] rfl ?_
  have L5 : ∀ (N : Nat) (i : Nat) (o : Option Nat) (h' : Int64), (k - i) < N → (i ≤ k) → (wlk SS (k - i) o h' = (wlk SS k (some ro) h)) → (oOk SS m o) → Z X (0) (0) (wkw E r (rs 0) (mwv S h' ab va an) ++ sw E rs SS) [(0, .ref (r 0)), (1, .int (nI ro)), (2, .int (nI k)), (3, .int (oI o)), (4, .int (nI i))] 5 [] := by
    intro N
    induction N with
    | zero => intro i o h' hN; exact absurd hN (Nat.not_lt_zero _)
    | succ N ih5 =>
      intro i o h' hN hi hw ho
      refine z_iload (pc := 5) F dX6_walk_5 4 rfl ?_
      refine z_iload_n (pc := 7) F dX6_walk_7 rfl 2 rfl ?_
      refine z_icmp_ge (pc := 8) (tgt := 36) F dX6_walk_8 (by decide) (fun c8 => ?_) (fun c8 => ?_)
      · have hie : i = k := Nat.le_antisymm hi (gI (by omega) (by omega) c8)
        rw [hie, Nat.sub_self, show wlk SS 0 o h' = (o, h') from rfl] at hw
        refine z_iload_n (pc := 36) F dX6_walk_36 rfl 3 rfl ?_
        exact z_iret (pc := 37) F hR dX6_walk_37 (Nat.le_of_ble_eq_true rfl) (Nat.le_of_ble_eq_true rfl) ⟨by rw [← hw], by rw [← hw]⟩
      · have hil := ngI (by omega) (by omega) c8
        rcases o with _ | j
        · rw [wlk_none] at hw
          show Z X (0) (0) (wkw E r (rs 0) (mwv S h' ab va an) ++ sw E rs SS) [(0, .ref (r 0)), (1, .int (nI ro)), (2, .int (nI k)), (3, .int (-1)), (4, .int (nI i))] 11 []
          refine z_iload_n (pc := 11) F dX6_walk_11 rfl 3 rfl ?_
          refine z_iconst (pc := 12) (v := (-1)) F dX6_walk_12 (by decide) ?_
          refine z_icmp_eq (pc := 13) (tgt := 36) F dX6_walk_13 (by decide) (fun _ => ?_) (fun h => absurd h (by decide))
          refine z_iload_n (pc := 36) F dX6_walk_36 rfl 3 rfl ?_
          exact z_iret (pc := 37) F hR dX6_walk_37 (Nat.le_of_ble_eq_true rfl) (Nat.le_of_ble_eq_true rfl) ⟨by rw [← hw]; rfl, by rw [← hw]⟩
        · rw [show k - i = (k - (i + 1)) + 1 by omega, show wlk SS ((k - (i + 1)) + 1) (some j) h' = wlk SS (k - (i + 1)) (rfO SS j) (note h' j) from rfl] at hw
          have hj := oOk_s ho
          have hrf := rfO_ok hs hj.1 hj.2
          show Z X (0) (0) (wkw E r (rs 0) (mwv S h' ab va an) ++ sw E rs SS) [(0, .ref (r 0)), (1, .int (nI ro)), (2, .int (nI k)), (3, .int (nI j)), (4, .int (nI i))] 11 []
          refine z_iload_n (pc := 11) F dX6_walk_11 rfl 3 rfl ?_
          refine z_iconst (pc := 12) (v := (-1)) F dX6_walk_12 (by decide) ?_
          refine z_icmp_eq (pc := 13) (tgt := 36) F dX6_walk_13 (by decide) (fun c13 => absurd c13 (nI_nm (by omega))) (fun c13 => ?_)
          refine z_aload_n (pc := 16) F dX6_walk_16 rfl 0 rfl ?_
          refine z_iload_n (pc := 17) F dX6_walk_17 rfl 3 rfl ?_
          refine z_callVW (pc := 18) (q0 := 0) (ci := 6) (rest := []) F (c_X6_note l E r rs S SS h' ab va an j) 1 ww_Worker_68 (by decide +kernel) rfl ⟨Nat.le_of_ble_eq_true rfl, Nat.le_of_ble_eq_true rfl⟩ ⟨Nat.le_of_ble_eq_true rfl, Nat.le_of_ble_eq_true rfl⟩ rfl rfl rfl rfl (Nat.le_of_ble_eq_true rfl) dX6_walk_18 (fun v_ w1_ hp => ?_)
          obtain ⟨rfl, rfl⟩ := hp
          show Z X (0) (0) (wkw E r (rs 0) (mwv S (note h' j) ab va an) ++ sw E rs SS) [(0, .ref (r 0)), (1, .int (nI ro)), (2, .int (nI k)), (3, .int (nI j)), (4, .int (nI i))] 21 []
          refine z_aload_n (pc := 21) F dX6_walk_21 rfl 0 rfl ?_
          refine z_get (pc := 22) (v := .ref (rs 0)) F iX6 0 rfl rfl 0 (by decide) tw_165 rfl dX6_walk_22 ?_
          refine z_iload_n (pc := 25) F dX6_walk_25 rfl 3 rfl ?_
          refine z_callV (pc := 26) (q0 := 3) (ci := 4) (wr := wkw E r (rs 0) (mwv S (note h' j) ab va an)) (rest := []) F (c_X4_referenceOf_s l E rs SS m j hm6 hmo hj.1 hj.2) 1 [3, 4, 5, 6, 7, 8, 9] [0, 1, 2] rfl rfl ⟨by decide, by decide, by decide⟩ ww_Worker_72 (by decide +kernel) rfl ⟨Nat.le_of_ble_eq_true rfl, Nat.le_of_ble_eq_true rfl⟩ ⟨Nat.le_of_ble_eq_true rfl, Nat.le_of_ble_eq_true rfl⟩ rfl rfl rfl rfl (Nat.le_of_ble_eq_true rfl) dX6_walk_26 (fun v_ w1_ hp => ?_)
          obtain ⟨rfl, rfl⟩ := hp
          show Z X (0) (0) (wkw E r (rs 0) (mwv S (note h' j) ab va an) ++ sw E rs SS) [(0, .ref (r 0)), (1, .int (nI ro)), (2, .int (nI k)), (3, .int (nI j)), (4, .int (nI i))] 29 [.int (za SS 3 j)]
          rw [show (za SS 3 j) = oI (rfO SS j) from hrf.2.symm]
          refine z_istore_n (pc := 29) (lv' := [(0, .ref (r 0)), (1, .int (nI ro)), (2, .int (nI k)), (3, .int (oI (rfO SS j))), (4, .int (nI i))]) F dX6_walk_29 rfl (by decide) [1, 2, 3, 0, 4] rfl ?_
          refine z_iinc (pc := 30) (v := nI (i + 1)) (lv' := [(0, .ref (r 0)), (1, .int (nI ro)), (2, .int (nI k)), (3, .int (oI (rfO SS j))), (4, .int (nI (i + 1)))]) F (j := 4) dX6_walk_30 rfl (nI_1 _) (by decide) [1, 2, 3, 4, 0] rfl ?_
          refine z_goto (pc := 33) (tgt := 5) F dX6_walk_33 (by decide) ?_
          exact ih5 (i + 1) (rfO SS j) (note h' j) (by omega) (by omega) hw hrf.1
  exact L5 _ 0 (some ro) h (Nat.lt_succ_self _) (Nat.zero_le _) rfl (oOk_i hrm hrt)
set_option maxHeartbeats 4000000 in
set_option maxRecDepth 100000 in
theorem c_X6_workField_n (l : Launch) (E : zE) (r : Nat → Nat) (rs : Nat → Nat) (S : zS) (SS : zS) (h : Int64) (ab : Int32) (va : Nat → Int64) (an : Nat → Int32) (c : Nat) (i : Nat) (hi : i < 80) : Ct l yX6_workField cX6_workField 4 (some .long) ({ frames := 1, cells := 0, slots := 0, locals := 30 } : Room) E (wkw E r (rs 0) (mwv S h ab va an) ++ sw E rs SS) [.ref (r 0), .int (nI c), .int (-1), .int (nI i)] (fun v_ w_ => v_ = some (.long 0) ∧ w_ = wkw E r (rs 0) (mwv S h ab va (upd an i 1)) ++ sw E rs SS) := by
  refine Ct.of (by decide) (Nat.le_of_ble_eq_true rfl) (lv := [(0, .ref (r 0)), (1, .int (nI c)), (2, .int (-1)), (3, .int (nI i))]) rfl ?_
  intro X F hR
  have F : zF X l ({ frames := 1, cells := 0, slots := 0, locals := 30 } : Room) E cX6_workField 4 "LiveQueries$Worker" := F
  refine z_iload_n (pc := 0) F dX6_workField_0 rfl 2 rfl ?_
  refine z_iconst (pc := 1) (v := (-1)) F dX6_workField_1 (by decide) ?_
  refine z_icmp_ne (pc := 2) (tgt := 11) F dX6_workField_2 (by decide) (fun h => absurd h (by decide)) (fun _ => ?_)
  refine z_aload_n (pc := 5) F dX6_workField_5 rfl 0 rfl ?_
  refine z_iload_n (pc := 6) F dX6_workField_6 rfl 3 rfl ?_
  refine z_callVW (pc := 7) (q0 := 0) (ci := 6) (rest := []) F (c_X6_missing l E r rs S SS h ab va an i hi) 1 ww_Worker_78 (by decide +kernel) rfl ⟨Nat.le_of_ble_eq_true rfl, Nat.le_of_ble_eq_true rfl⟩ ⟨Nat.le_of_ble_eq_true rfl, Nat.le_of_ble_eq_true rfl⟩ rfl rfl rfl rfl (Nat.le_of_ble_eq_true rfl) dX6_workField_7 (fun v_ w1_ hp => ?_)
  obtain ⟨rfl, rfl⟩ := hp
  show Z X (0) (0) (wkw E r (rs 0) (mwv S h ab va (upd an i 1)) ++ sw E rs SS) [(0, .ref (r 0)), (1, .int (nI c)), (2, .int (-1)), (3, .int (nI i))] 10 [.long 0]
  exact z_lret (pc := 10) F hR dX6_workField_10 (Nat.le_of_ble_eq_true rfl) (Nat.le_of_ble_eq_true rfl) ⟨rfl, rfl⟩
set_option maxHeartbeats 4000000 in
set_option maxRecDepth 100000 in
theorem c_X6_workField_s (l : Launch) (E : zE) (r : Nat → Nat) (rs : Nat → Nat) (S : zS) (SS : zS) (h : Int64) (ab : Int32) (va : Nat → Int64) (an : Nat → Int32) (m : Nat) (c : Nat) (o : Nat) (i : Nat) (hs : stOk SS m) (hc : isF c) (hom : o < m) (hth : ¬ za SS 1 o = 0) : Ct l yX6_workField cX6_workField 4 (some .long) ({ frames := 2, cells := 0, slots := 0, locals := 80 } : Room) E (wkw E r (rs 0) (mwv S h ab va an) ++ sw E rs SS) [.ref (r 0), .int (nI c), .int (nI o), .int (nI i)] (fun v_ w_ => v_ = some (.long (fldV SS c o)) ∧ w_ = wkw E r (rs 0) (mwv S (note h o) ab va an) ++ sw E rs SS) := by
  refine Ct.of (by decide) (Nat.le_of_ble_eq_true rfl) (lv := [(0, .ref (r 0)), (1, .int (nI c)), (2, .int (nI o)), (3, .int (nI i))]) rfl ?_
  intro X F hR
  have F : zF X l ({ frames := 2, cells := 0, slots := 0, locals := 80 } : Room) E cX6_workField 4 "LiveQueries$Worker" := F
  have hm6 := hs.1
  have hmo := hs.2.1
  refine z_iload_n (pc := 0) F dX6_workField_0 rfl 2 rfl ?_
  refine z_iconst (pc := 1) (v := (-1)) F dX6_workField_1 (by decide) ?_
  refine z_icmp_ne (pc := 2) (tgt := 11) F dX6_workField_2 (by decide) (fun c2 => ?_) (fun c2 => absurd c2 (nI_nm (by omega)))
  refine z_aload_n (pc := 11) F dX6_workField_11 rfl 0 rfl ?_
  refine z_iload_n (pc := 12) F dX6_workField_12 rfl 2 rfl ?_
  refine z_callVW (pc := 13) (q0 := 0) (ci := 6) (rest := []) F (c_X6_note l E r rs S SS h ab va an o) 1 ww_Worker_68 (by decide +kernel) rfl ⟨Nat.le_of_ble_eq_true rfl, Nat.le_of_ble_eq_true rfl⟩ ⟨Nat.le_of_ble_eq_true rfl, Nat.le_of_ble_eq_true rfl⟩ rfl rfl rfl rfl (Nat.le_of_ble_eq_true rfl) dX6_workField_13 (fun v_ w1_ hp => ?_)
  obtain ⟨rfl, rfl⟩ := hp
  show Z X (0) (0) (wkw E r (rs 0) (mwv S (note h o) ab va an) ++ sw E rs SS) [(0, .ref (r 0)), (1, .int (nI c)), (2, .int (nI o)), (3, .int (nI i))] 16 []
  refine z_iload_n (pc := 16) F dX6_workField_16 rfl 1 rfl ?_
  rcases hc with rfl | rfl | rfl | rfl | rfl
  · refine z_lookup (off := 40) (tgt := 57) (pc := 17) F dX6_workField_17 (by decide) (by decide) (by decide) ?_
    refine z_aload_n (pc := 57) F dX6_workField_57 rfl 0 rfl ?_
    refine z_get (pc := 58) (v := .ref (rs 0)) F iX6 0 rfl rfl 0 (by decide) tw_165 rfl dX6_workField_58 ?_
    refine z_iload_n (pc := 61) F dX6_workField_61 rfl 2 rfl ?_
    refine z_iload_n (pc := 62) F dX6_workField_62 rfl 1 rfl ?_
    refine z_bipush (pc := 63) (v := 97) F dX6_workField_63 (by decide) ?_
    refine z_isub (pc := 65) F dX6_workField_65 ?_
    rw [show ((nI 97) - 97) = nI 0 from rfl]
    refine z_callV (pc := 66) (q0 := 3) (ci := 4) (wr := wkw E r (rs 0) (mwv S (note h o) ab va an)) (rest := []) F (c_X4_partOf_s l E rs SS m o 0 hm6 hmo hom hth (by decide)) 2 [3, 4, 5, 6, 7, 8, 9] [0, 1, 2] rfl rfl ⟨by decide, by decide, by decide⟩ ww_Worker_85 (by decide +kernel) rfl ⟨Nat.le_of_ble_eq_true rfl, Nat.le_of_ble_eq_true rfl⟩ ⟨Nat.le_of_ble_eq_true rfl, Nat.le_of_ble_eq_true rfl⟩ rfl rfl rfl rfl (Nat.le_of_ble_eq_true rfl) dX6_workField_66 (fun v_ w1_ hp => ?_)
    obtain ⟨rfl, rfl⟩ := hp
    show Z X (0) (0) (wkw E r (rs 0) (mwv S (note h o) ab va an) ++ sw E rs SS) [(0, .ref (r 0)), (1, .int (nI 97)), (2, .int (nI o)), (3, .int (nI i))] 69 [.long (zb SS 5 (3 * o + 0))]
    exact z_lret (pc := 69) F hR dX6_workField_69 (Nat.le_of_ble_eq_true rfl) (Nat.le_of_ble_eq_true rfl) ⟨rfl, rfl⟩
  · refine z_lookup (off := 40) (tgt := 57) (pc := 17) F dX6_workField_17 (by decide) (by decide) (by decide) ?_
    refine z_aload_n (pc := 57) F dX6_workField_57 rfl 0 rfl ?_
    refine z_get (pc := 58) (v := .ref (rs 0)) F iX6 0 rfl rfl 0 (by decide) tw_165 rfl dX6_workField_58 ?_
    refine z_iload_n (pc := 61) F dX6_workField_61 rfl 2 rfl ?_
    refine z_iload_n (pc := 62) F dX6_workField_62 rfl 1 rfl ?_
    refine z_bipush (pc := 63) (v := 97) F dX6_workField_63 (by decide) ?_
    refine z_isub (pc := 65) F dX6_workField_65 ?_
    rw [show ((nI 98) - 97) = nI 1 from rfl]
    refine z_callV (pc := 66) (q0 := 3) (ci := 4) (wr := wkw E r (rs 0) (mwv S (note h o) ab va an)) (rest := []) F (c_X4_partOf_s l E rs SS m o 1 hm6 hmo hom hth (by decide)) 2 [3, 4, 5, 6, 7, 8, 9] [0, 1, 2] rfl rfl ⟨by decide, by decide, by decide⟩ ww_Worker_85 (by decide +kernel) rfl ⟨Nat.le_of_ble_eq_true rfl, Nat.le_of_ble_eq_true rfl⟩ ⟨Nat.le_of_ble_eq_true rfl, Nat.le_of_ble_eq_true rfl⟩ rfl rfl rfl rfl (Nat.le_of_ble_eq_true rfl) dX6_workField_66 (fun v_ w1_ hp => ?_)
    obtain ⟨rfl, rfl⟩ := hp
    show Z X (0) (0) (wkw E r (rs 0) (mwv S (note h o) ab va an) ++ sw E rs SS) [(0, .ref (r 0)), (1, .int (nI 98)), (2, .int (nI o)), (3, .int (nI i))] 69 [.long (zb SS 5 (3 * o + 1))]
    exact z_lret (pc := 69) F hR dX6_workField_69 (Nat.le_of_ble_eq_true rfl) (Nat.le_of_ble_eq_true rfl) ⟨rfl, rfl⟩
  · refine z_lookup (off := 40) (tgt := 57) (pc := 17) F dX6_workField_17 (by decide) (by decide) (by decide) ?_
    refine z_aload_n (pc := 57) F dX6_workField_57 rfl 0 rfl ?_
    refine z_get (pc := 58) (v := .ref (rs 0)) F iX6 0 rfl rfl 0 (by decide) tw_165 rfl dX6_workField_58 ?_
    refine z_iload_n (pc := 61) F dX6_workField_61 rfl 2 rfl ?_
    refine z_iload_n (pc := 62) F dX6_workField_62 rfl 1 rfl ?_
    refine z_bipush (pc := 63) (v := 97) F dX6_workField_63 (by decide) ?_
    refine z_isub (pc := 65) F dX6_workField_65 ?_
    rw [show ((nI 99) - 97) = nI 2 from rfl]
    refine z_callV (pc := 66) (q0 := 3) (ci := 4) (wr := wkw E r (rs 0) (mwv S (note h o) ab va an)) (rest := []) F (c_X4_partOf_s l E rs SS m o 2 hm6 hmo hom hth (by decide)) 2 [3, 4, 5, 6, 7, 8, 9] [0, 1, 2] rfl rfl ⟨by decide, by decide, by decide⟩ ww_Worker_85 (by decide +kernel) rfl ⟨Nat.le_of_ble_eq_true rfl, Nat.le_of_ble_eq_true rfl⟩ ⟨Nat.le_of_ble_eq_true rfl, Nat.le_of_ble_eq_true rfl⟩ rfl rfl rfl rfl (Nat.le_of_ble_eq_true rfl) dX6_workField_66 (fun v_ w1_ hp => ?_)
    obtain ⟨rfl, rfl⟩ := hp
    show Z X (0) (0) (wkw E r (rs 0) (mwv S (note h o) ab va an) ++ sw E rs SS) [(0, .ref (r 0)), (1, .int (nI 99)), (2, .int (nI o)), (3, .int (nI i))] 69 [.long (zb SS 5 (3 * o + 2))]
    exact z_lret (pc := 69) F hR dX6_workField_69 (Nat.le_of_ble_eq_true rfl) (Nat.le_of_ble_eq_true rfl) ⟨rfl, rfl⟩
  · refine z_lookup (off := 37) (tgt := 54) (pc := 17) F dX6_workField_17 (by decide) (by decide) (by decide) ?_
    refine z_iload_n (pc := 54) F dX6_workField_54 rfl 2 rfl ?_
    refine z_i2l (pc := 55) F dX6_workField_55 ?_
    rw [show ((nI o).toInt64) = lN o from (nI_l (by omega))]
    exact z_lret (pc := 56) F hR dX6_workField_56 (Nat.le_of_ble_eq_true rfl) (Nat.le_of_ble_eq_true rfl) ⟨rfl, rfl⟩
  · refine z_lookup (off := 27) (tgt := 44) (pc := 17) F dX6_workField_17 (by decide) (by decide) (by decide) ?_
    refine z_aload_n (pc := 44) F dX6_workField_44 rfl 0 rfl ?_
    refine z_get (pc := 45) (v := .ref (rs 0)) F iX6 0 rfl rfl 0 (by decide) tw_165 rfl dX6_workField_45 ?_
    refine z_iload_n (pc := 48) F dX6_workField_48 rfl 2 rfl ?_
    refine z_callV (pc := 49) (q0 := 3) (ci := 4) (wr := wkw E r (rs 0) (mwv S (note h o) ab va an)) (rest := []) F (c_X4_lengthOf_s l E rs SS m o hm6 hmo hom) 1 [3, 4, 5, 6, 7, 8, 9] [0, 1, 2] rfl rfl ⟨by decide, by decide, by decide⟩ ww_Worker_82 (by decide +kernel) rfl ⟨Nat.le_of_ble_eq_true rfl, Nat.le_of_ble_eq_true rfl⟩ ⟨Nat.le_of_ble_eq_true rfl, Nat.le_of_ble_eq_true rfl⟩ rfl rfl rfl rfl (Nat.le_of_ble_eq_true rfl) dX6_workField_49 (fun v_ w1_ hp => ?_)
    obtain ⟨rfl, rfl⟩ := hp
    show Z X (0) (0) (wkw E r (rs 0) (mwv S (note h o) ab va an) ++ sw E rs SS) [(0, .ref (r 0)), (1, .int (nI 110)), (2, .int (nI o)), (3, .int (nI i))] 52 [.int (za SS 4 o)]
    refine z_i2l (pc := 52) F dX6_workField_52 ?_
    exact z_lret (pc := 53) F hR dX6_workField_53 (Nat.le_of_ble_eq_true rfl) (Nat.le_of_ble_eq_true rfl) ⟨rfl, rfl⟩
set_option maxHeartbeats 4000000 in
set_option maxRecDepth 100000 in
theorem c_X6_workItem_n (l : Launch) (E : zE) (r : Nat → Nat) (rs : Nat → Nat) (S : zS) (SS : zS) (h : Int64) (ab : Int32) (va : Nat → Int64) (an : Nat → Int32) (q : Int32) (i : Nat) (hi : i < 80) : Ct l yX6_workItem cX6_workItem 6 (some .long) ({ frames := 1, cells := 0, slots := 0, locals := 30 } : Room) E (wkw E r (rs 0) (mwv S h ab va an) ++ sw E rs SS) [.ref (r 0), .int (-1), .int q, .int (nI i)] (fun v_ w_ => v_ = some (.long 0) ∧ w_ = wkw E r (rs 0) (mwv S h ab va (upd an i 1)) ++ sw E rs SS) := by
  refine Ct.of (by decide) (Nat.le_of_ble_eq_true rfl) (lv := [(0, .ref (r 0)), (1, .int (-1)), (2, .int q), (3, .int (nI i))]) rfl ?_
  intro X F hR
  have F : zF X l ({ frames := 1, cells := 0, slots := 0, locals := 30 } : Room) E cX6_workItem 6 "LiveQueries$Worker" := F
  refine z_iload_n (pc := 0) F dX6_workItem_0 rfl 1 rfl ?_
  refine z_iconst (pc := 1) (v := (-1)) F dX6_workItem_1 (by decide) ?_
  refine z_icmp_ne (pc := 2) (tgt := 11) F dX6_workItem_2 (by decide) (fun h => absurd h (by decide)) (fun _ => ?_)
  refine z_aload_n (pc := 5) F dX6_workItem_5 rfl 0 rfl ?_
  refine z_iload_n (pc := 6) F dX6_workItem_6 rfl 3 rfl ?_
  refine z_callVW (pc := 7) (q0 := 0) (ci := 6) (rest := []) F (c_X6_missing l E r rs S SS h ab va an i hi) 1 ww_Worker_78 (by decide +kernel) rfl ⟨Nat.le_of_ble_eq_true rfl, Nat.le_of_ble_eq_true rfl⟩ ⟨Nat.le_of_ble_eq_true rfl, Nat.le_of_ble_eq_true rfl⟩ rfl rfl rfl rfl (Nat.le_of_ble_eq_true rfl) dX6_workItem_7 (fun v_ w1_ hp => ?_)
  obtain ⟨rfl, rfl⟩ := hp
  show Z X (0) (0) (wkw E r (rs 0) (mwv S h ab va (upd an i 1)) ++ sw E rs SS) [(0, .ref (r 0)), (1, .int (-1)), (2, .int q), (3, .int (nI i))] 10 [.long 0]
  exact z_lret (pc := 10) F hR dX6_workItem_10 (Nat.le_of_ble_eq_true rfl) (Nat.le_of_ble_eq_true rfl) ⟨rfl, rfl⟩
set_option maxHeartbeats 4000000 in
set_option maxRecDepth 100000 in
theorem c_X6_workItem_s (l : Launch) (E : zE) (r : Nat → Nat) (rs : Nat → Nat) (S : zS) (SS : zS) (h : Int64) (ab : Int32) (va : Nat → Int64) (an : Nat → Int32) (m : Nat) (V : zVs) (j : Nat) (i : Nat) (o : Nat) (hs : stOk SS m) (hv : hoV V va an) (hjl : j < V.length) (hj8 : j < 80) (hi : i < 80) (hom : o < m) (hth : ¬ za SS 1 o = 0) : Ct l yX6_workItem cX6_workItem 6 (some .long) ({ frames := 2, cells := 0, slots := 0, locals := 80 } : Room) E (wkw E r (rs 0) (mwv S h ab va an) ++ sw E rs SS) [.ref (r 0), .int (nI o), .int (nI j), .int (nI i)] (fun v_ w_ => ∃ an' : Nat → Int32, v_ = some (.long ((if (gV V (nI j)).2 then (0, true) else itmV SS o (gV V (nI j)).1).1)) ∧ w_ = wkw E r (rs 0) (mwv S (note h o) ab va an') ++ sw E rs SS ∧ (∀ k : Nat, k < i → an' k = an k) ∧ (an i = 0 → an' i = bI (if (gV V (nI j)).2 then (0, true) else itmV SS o (gV V (nI j)).1).2)) := by
  refine Ct.of (by decide) (Nat.le_of_ble_eq_true rfl) (lv := [(0, .ref (r 0)), (1, .int (nI o)), (2, .int (nI j)), (3, .int (nI i))]) rfl ?_
  intro X F hR
  have F : zF X l ({ frames := 2, cells := 0, slots := 0, locals := 80 } : Room) E cX6_workItem 6 "LiveQueries$Worker" := F
  have hm6 := hs.1
  have hmo := hs.2.1
  have hvj := hoV_at hv hjl (by omega)
  refine z_iload_n (pc := 0) F dX6_workItem_0 rfl 1 rfl ?_
  refine z_iconst (pc := 1) (v := (-1)) F dX6_workItem_1 (by decide) ?_
  refine z_icmp_ne (pc := 2) (tgt := 11) F dX6_workItem_2 (by decide) (fun c2 => ?_) (fun c2 => absurd c2 (nI_nm (by omega)))
  refine z_aload_n (pc := 11) F dX6_workItem_11 rfl 0 rfl ?_
  refine z_iload_n (pc := 12) F dX6_workItem_12 rfl 1 rfl ?_
  refine z_callVW (pc := 13) (q0 := 0) (ci := 6) (rest := []) F (c_X6_note l E r rs S SS h ab va an o) 1 ww_Worker_68 (by decide +kernel) rfl ⟨Nat.le_of_ble_eq_true rfl, Nat.le_of_ble_eq_true rfl⟩ ⟨Nat.le_of_ble_eq_true rfl, Nat.le_of_ble_eq_true rfl⟩ rfl rfl rfl rfl (Nat.le_of_ble_eq_true rfl) dX6_workItem_13 (fun v_ w1_ hp => ?_)
  obtain ⟨rfl, rfl⟩ := hp
  show Z X (0) (0) (wkw E r (rs 0) (mwv S (note h o) ab va an) ++ sw E rs SS) [(0, .ref (r 0)), (1, .int (nI o)), (2, .int (nI j)), (3, .int (nI i))] 16 []
  refine z_iload_n (pc := 16) F dX6_workItem_16 rfl 2 rfl ?_
  refine z_callS0 (pc := 17) (rest := []) F (c_X6_isNode l E (nI j)) 1 ww_Worker_64 (by decide +kernel) rfl ⟨Nat.le_of_ble_eq_true rfl, Nat.le_of_ble_eq_true rfl⟩ ⟨Nat.le_of_ble_eq_true rfl, Nat.le_of_ble_eq_true rfl⟩ rfl (Nat.le_of_ble_eq_true rfl) dX6_workItem_17 (fun v_ w1_ hp => ?_)
  obtain ⟨rfl, rfl⟩ := hp
  show Z X (0) (0) (wkw E r (rs 0) (mwv S (note h o) ab va an) ++ sw E rs SS) [(0, .ref (r 0)), (1, .int (nI o)), (2, .int (nI j)), (3, .int (nI i))] 20 [.int (bI (decide (¬ (nI j) < 0 ∧ ¬ 80 ≤ (nI j))))]
  rw [show (bI (decide (¬ (nI j) < 0 ∧ ¬ 80 ≤ (nI j)))) = 1 from (by rw [isN_t hj8]; rfl)]
  refine z_if_eq (pc := 20) (tgt := 32) F dX6_workItem_20 (by decide) (fun h => absurd h (by decide)) (fun _ => ?_)
  refine z_aload_n (pc := 23) F dX6_workItem_23 rfl 0 rfl ?_
  refine z_get (pc := 24) (v := .ref (r 2)) F iX6 0 rfl rfl 2 (by decide) tw_167 rfl dX6_workItem_24 ?_
  refine z_iload_n (pc := 27) F dX6_workItem_27 rfl 2 rfl ?_
  refine z_zaldN (pc := 28) (f := an) F 2 2 rfl rfl j rfl (by omega) (by decide) dX6_workItem_28 ?_
  rw [show ((an) j) = bI (gV V (nI j)).2 from hvj.2]
  refine z_if_eq (pc := 29) (tgt := 38) F dX6_workItem_29 (by decide) (fun c29 => ?_) (fun c29 => ?_)
  · replace c29 := bI_f c29
    refine z_aload_n (pc := 38) F dX6_workItem_38 rfl 0 rfl ?_
    refine z_get (pc := 39) (v := .ref (r 1)) F iX6 0 rfl rfl 1 (by decide) tw_166 rfl dX6_workItem_39 ?_
    refine z_iload_n (pc := 42) F dX6_workItem_42 rfl 2 rfl ?_
    refine z_laldN (pc := 43) (f := va) F 1 1 rfl rfl j rfl (by omega) (by decide) dX6_workItem_43 ?_
    rw [show ((va) j) = (gV V (nI j)).1 from hvj.1]
    refine z_lstore (pc := 44) (lv' := [(0, .ref (r 0)), (1, .int (nI o)), (2, .int (nI j)), (3, .int (nI i)), (4, .long ((gV V (nI j)).1))]) F dX6_workItem_44 (by decide) [1, 2, 3, 4, 0] rfl ?_
    refine z_aload_n (pc := 46) F dX6_workItem_46 rfl 0 rfl ?_
    refine z_get (pc := 47) (v := .ref (rs 0)) F iX6 0 rfl rfl 0 (by decide) tw_165 rfl dX6_workItem_47 ?_
    refine z_iload_n (pc := 50) F dX6_workItem_50 rfl 1 rfl ?_
    refine z_lload (pc := 51) F dX6_workItem_51 4 rfl ?_
    refine z_callV (pc := 53) (q0 := 3) (ci := 4) (wr := wkw E r (rs 0) (mwv S (note h o) ab va an)) (rest := []) F (c_X4_hasItem l E rs SS m (nI o) ((gV V (nI j)).1) hm6 hmo) 2 [3, 4, 5, 6, 7, 8, 9] [0, 1, 2] rfl rfl ⟨by decide, by decide, by decide⟩ ww_Worker_89 (by decide +kernel) rfl ⟨Nat.le_of_ble_eq_true rfl, Nat.le_of_ble_eq_true rfl⟩ ⟨Nat.le_of_ble_eq_true rfl, Nat.le_of_ble_eq_true rfl⟩ rfl rfl rfl rfl (Nat.le_of_ble_eq_true rfl) dX6_workItem_53 (fun v_ w1_ hp => ?_)
    obtain ⟨rfl, rfl⟩ := hp
    show Z X (0) (0) (wkw E r (rs 0) (mwv S (note h o) ab va an) ++ sw E rs SS) [(0, .ref (r 0)), (1, .int (nI o)), (2, .int (nI j)), (3, .int (nI i)), (4, .long ((gV V (nI j)).1))] 56 [.int (bI (hasB m (za SS 4) (nI o) ((gV V (nI j)).1)))]
    rw [show (bI (hasB m (za SS 4) (nI o) ((gV V (nI j)).1))) = bI (decide (¬ (gV V (nI j)).1 < 0 ∧ ¬ (za SS 4 o).toInt64 ≤ (gV V (nI j)).1)) from (by rw [hasB_nI (by omega) hom])]
    refine z_if_eq (pc := 56) (tgt := 73) F dX6_workItem_56 (by decide) (fun c56 => ?_) (fun c56 => ?_)
    · replace c56 := bI_f c56
      have c56 := of_decide_eq_false c56
      refine z_aload_n (pc := 73) F dX6_workItem_73 rfl 0 rfl ?_
      refine z_iload_n (pc := 74) F dX6_workItem_74 rfl 3 rfl ?_
      refine z_callVW (pc := 75) (q0 := 0) (ci := 6) (rest := []) F (c_X6_missing l E r rs S SS (note h o) ab va an i hi) 1 ww_Worker_78 (by decide +kernel) rfl ⟨Nat.le_of_ble_eq_true rfl, Nat.le_of_ble_eq_true rfl⟩ ⟨Nat.le_of_ble_eq_true rfl, Nat.le_of_ble_eq_true rfl⟩ rfl rfl rfl rfl (Nat.le_of_ble_eq_true rfl) dX6_workItem_75 (fun v_ w1_ hp => ?_)
      obtain ⟨rfl, rfl⟩ := hp
      show Z X (0) (0) (wkw E r (rs 0) (mwv S (note h o) ab va (upd an i 1)) ++ sw E rs SS) [(0, .ref (r 0)), (1, .int (nI o)), (2, .int (nI j)), (3, .int (nI i)), (4, .long ((gV V (nI j)).1))] 78 [.long 0]
      exact z_lret (pc := 78) F hR dX6_workItem_78 (Nat.le_of_ble_eq_true rfl) (Nat.le_of_ble_eq_true rfl) ⟨_, by rw [if_neg (by rw [c29]; decide), itmV, if_neg c56], rfl, fun k hk => pk_un (by omega), fun _ => by rw [pk_us, if_neg (by rw [c29]; decide), itmV, if_neg c56]; rfl⟩
    · replace c56 := bI_t c56
      have c56 := of_decide_eq_true c56
      obtain ⟨q, hq8, hqe, hqi, hql⟩ := has_q hs hom c56.1 c56.2
      refine z_aload_n (pc := 59) F dX6_workItem_59 rfl 0 rfl ?_
      refine z_get (pc := 60) (v := .ref (rs 0)) F iX6 0 rfl rfl 0 (by decide) tw_165 rfl dX6_workItem_60 ?_
      refine z_iload_n (pc := 63) F dX6_workItem_63 rfl 1 rfl ?_
      refine z_lload (pc := 64) F dX6_workItem_64 4 rfl ?_
      refine z_l2i (pc := 66) F dX6_workItem_66 ?_
      rw [show (((gV V (nI j)).1).toInt32) = nI q from hqi]
      refine z_callV (pc := 67) (q0 := 3) (ci := 4) (wr := wkw E r (rs 0) (mwv S (note h o) ab va an)) (rest := []) F (c_X4_itemOf_s l E rs SS m o q hm6 hmo hom (by rw [hql]; exact c56) hq8) 2 [3, 4, 5, 6, 7, 8, 9] [0, 1, 2] rfl rfl ⟨by decide, by decide, by decide⟩ ww_Worker_93 (by decide +kernel) rfl ⟨Nat.le_of_ble_eq_true rfl, Nat.le_of_ble_eq_true rfl⟩ ⟨Nat.le_of_ble_eq_true rfl, Nat.le_of_ble_eq_true rfl⟩ rfl rfl rfl rfl (Nat.le_of_ble_eq_true rfl) dX6_workItem_67 (fun v_ w1_ hp => ?_)
      obtain ⟨rfl, rfl⟩ := hp
      show Z X (0) (0) (wkw E r (rs 0) (mwv S (note h o) ab va an) ++ sw E rs SS) [(0, .ref (r 0)), (1, .int (nI o)), (2, .int (nI j)), (3, .int (nI i)), (4, .long ((gV V (nI j)).1))] 70 [.long (zb SS 6 (8 * o + q))]
      refine z_goto (pc := 70) (tgt := 78) F dX6_workItem_70 (by decide) ?_
      exact z_lret (pc := 78) F hR dX6_workItem_78 (Nat.le_of_ble_eq_true rfl) (Nat.le_of_ble_eq_true rfl) ⟨an, by rw [if_neg (by rw [c29]; decide), itmV, if_pos c56, hqe, lN_clamp (by omega)], rfl, fun _ _ => rfl, fun h0 => by rw [h0, if_neg (by rw [c29]; decide), itmV, if_pos c56]; rfl⟩
  · replace c29 := bI_t c29
    refine z_aload_n (pc := 32) F dX6_workItem_32 rfl 0 rfl ?_
    refine z_iload_n (pc := 33) F dX6_workItem_33 rfl 3 rfl ?_
    refine z_callVW (pc := 34) (q0 := 0) (ci := 6) (rest := []) F (c_X6_missing l E r rs S SS (note h o) ab va an i hi) 1 ww_Worker_78 (by decide +kernel) rfl ⟨Nat.le_of_ble_eq_true rfl, Nat.le_of_ble_eq_true rfl⟩ ⟨Nat.le_of_ble_eq_true rfl, Nat.le_of_ble_eq_true rfl⟩ rfl rfl rfl rfl (Nat.le_of_ble_eq_true rfl) dX6_workItem_34 (fun v_ w1_ hp => ?_)
    obtain ⟨rfl, rfl⟩ := hp
    show Z X (0) (0) (wkw E r (rs 0) (mwv S (note h o) ab va (upd an i 1)) ++ sw E rs SS) [(0, .ref (r 0)), (1, .int (nI o)), (2, .int (nI j)), (3, .int (nI i))] 37 [.long 0]
    exact z_lret (pc := 37) F hR dX6_workItem_37 (Nat.le_of_ble_eq_true rfl) (Nat.le_of_ble_eq_true rfl) ⟨_, by rw [if_pos c29], rfl, fun k hk => pk_un (by omega), fun _ => by rw [pk_us, if_pos c29]; rfl⟩

def tpw (E : zE) (r : Nat → Nat) (S : zS) : va_W := [(r 0, .inr (5, [.ref (r 1), .int (zi S 0)])), (r 1, .inl (E.2 3, 80, .inl (za S 1)))]
set_option maxHeartbeats 4000000 in
set_option maxRecDepth 100000 in
theorem c_X5_byteOf (l : Launch) (E : zE) (w : Int64) (k : Nat) (hk : k < 8) : Ct l yX5_byteOf cX5_byteOf 3 (some .char) ({ frames := 0, cells := 0, slots := 0, locals := 0 } : Room) E ([]) [.long w, .int (nI k)] (fun v_ w_ => v_ = some (.int (byI w k)) ∧ w_ = []) := by
  refine Ct.of (by decide) (Nat.le_of_ble_eq_true rfl) (lv := [(0, .long w), (2, .int (nI k))]) rfl ?_
  intro X F hR
  have F : zF X l ({ frames := 0, cells := 0, slots := 0, locals := 0 } : Room) E cX5_byteOf 3 "LiveQueries$Tape" := F
  refine z_lload_n (pc := 0) F dX5_byteOf_0 rfl 0 rfl ?_
  refine z_bipush (pc := 1) (v := 8) F dX5_byteOf_1 (by decide) ?_
  refine z_iload_n (pc := 3) F dX5_byteOf_3 rfl 1 rfl ?_
  refine z_imul (pc := 4) F dX5_byteOf_4 ?_
  rw [show (8 * (nI k)) = nI (8 * k) from (mulL 8 k)]
  refine z_lushr (pc := 5) F dX5_byteOf_5 ?_
  refine z_ldc2 (pc := 6) F dX5_byteOf_6 tw_549 ?_
  refine z_land (pc := 9) F dX5_byteOf_9 ?_
  refine z_l2i (pc := 10) F dX5_byteOf_10 ?_
  refine z_i2c (pc := 11) F dX5_byteOf_11 ?_
  rw [show ((((((w.toUInt64 >>> ((nI (8 * k)).toInt64.toUInt64 &&& Int64.toUInt64 63)).toInt64) &&& 255).toInt32).toUInt32 % 65536).toInt32) = byI w k from (byC_eq w hk)]
  exact z_zret (pc := 12) F hR (byI_nar w k) dX5_byteOf_12 (Nat.le_of_ble_eq_true rfl) (Nat.le_of_ble_eq_true rfl) ⟨rfl, rfl⟩
set_option maxHeartbeats 4000000 in
set_option maxRecDepth 100000 in
theorem c_X5_isPlain_b (l : Launch) (E : zE) (w : Int64) (nn : Nat) (h1 : 1 ≤ nn) (h8 : nn ≤ 8) (hbad : ∃ j : Nat, j < nn ∧ okB w j = false) : Ct l yX5_isPlain cX5_isPlain 5 (some .boolean) ({ frames := 1, cells := 0, slots := 0, locals := 22 } : Room) E ([]) [.long w, .int (nI nn)] (fun v_ w_ => v_ = some (.int (bI false)) ∧ w_ = []) := by
  refine Ct.of (by decide) (Nat.le_of_ble_eq_true rfl) (lv := [(0, .long w), (2, .int (nI nn))]) rfl ?_
  intro X F hR
  have F : zF X l ({ frames := 1, cells := 0, slots := 0, locals := 22 } : Room) E cX5_isPlain 5 "LiveQueries$Tape" := F
  refine z_iconst (pc := 0) (v := 0) F dX5_isPlain_0 (by decide) ?_
  refine z_istore_n (pc := 1) (lv' := [(0, .long w), (2, .int (nI nn)), (3, .int 0)]) F dX5_isPlain_1 rfl (by decide) [1, 2, 0] rfl ?_
  have L2 : ∀ (N : Nat) (k : Nat), (nn - k) < N → (k ≤ nn) → (∀ j : Nat, j < k → okB w j = true) → Z X (0) (0) ([]) [(0, .long w), (2, .int (nI nn)), (3, .int (nI k))] 2 [] := by
    intro N
    induction N with
    | zero => intro k hN; exact absurd hN (Nat.not_lt_zero _)
    | succ N ih2 =>
      intro k hN hk hok
      refine z_iload_n (pc := 2) F dX5_isPlain_2 rfl 2 rfl ?_
      refine z_iload_n (pc := 3) F dX5_isPlain_3 rfl 1 rfl ?_
      refine z_icmp_ge (pc := 4) (tgt := 36) F dX5_isPlain_4 (by decide) (fun c4 => ?_) (fun c4 => ?_)
      · exact (by obtain ⟨j, hj, hb⟩ := hbad; have hke : nn ≤ k := gI (by omega) (by omega) c4; rw [hok j (by omega)] at hb; exact absurd hb (by decide))
      · have hkl := ngI (by omega) (by omega) c4
        refine z_lload_n (pc := 7) F dX5_isPlain_7 rfl 0 rfl ?_
        refine z_iload_n (pc := 8) F dX5_isPlain_8 rfl 2 rfl ?_
        refine z_callS0 (pc := 9) (rest := []) F (c_X5_byteOf l E w k (by omega)) 2 ww_Tape_23 (by decide +kernel) rfl ⟨Nat.le_of_ble_eq_true rfl, Nat.le_of_ble_eq_true rfl⟩ ⟨Nat.le_of_ble_eq_true rfl, Nat.le_of_ble_eq_true rfl⟩ rfl (Nat.le_of_ble_eq_true rfl) dX5_isPlain_9 (fun v_ w1_ hp => ?_)
        obtain ⟨rfl, rfl⟩ := hp
        show Z X (0) (0) ([]) [(0, .long w), (2, .int (nI nn)), (3, .int (nI k))] 12 [.int (byI w k)]
        refine z_istore (pc := 12) (lv' := [(0, .long w), (2, .int (nI nn)), (3, .int (nI k)), (4, .int (byI w k))]) F dX5_isPlain_12 (by decide) [1, 2, 3, 0] rfl ?_
        refine z_iload (pc := 14) F dX5_isPlain_14 3 rfl ?_
        refine z_bipush (pc := 16) (v := 33) F dX5_isPlain_16 (by decide) ?_
        refine z_icmp_lt (pc := 18) (tgt := 28) F dX5_isPlain_18 (by decide) (fun c18 => ?_) (fun c18 => ?_)
        · refine z_iconst (pc := 28) (v := 0) F dX5_isPlain_28 (by decide) ?_
          exact z_zret (pc := 29) F hR rfl dX5_isPlain_29 (Nat.le_of_ble_eq_true rfl) (Nat.le_of_ble_eq_true rfl) ⟨rfl, rfl⟩
        · refine z_iload (pc := 21) F dX5_isPlain_21 3 rfl ?_
          refine z_bipush (pc := 23) (v := 126) F dX5_isPlain_23 (by decide) ?_
          refine z_icmp_le (pc := 25) (tgt := 30) F dX5_isPlain_25 (by decide) (fun c25 => ?_) (fun c25 => ?_)
          · refine z_iinc (pc := 30) (v := nI (k + 1)) (lv' := [(0, .long w), (2, .int (nI nn)), (3, .int (nI (k + 1))), (4, .int (byI w k))]) F (j := 2) dX5_isPlain_30 rfl (nI_1 _) (by decide) [1, 2, 0, 3] rfl ?_
            refine z_goto (pc := 33) (tgt := 2) F dX5_isPlain_33 (by decide) ?_
            refine z_locals (lv' := [(0, .long w), (2, .int (nI nn)), (3, .int (nI (k + 1)))]) [0, 1, 2] rfl ?_
            exact ih2 (k + 1) (by omega) (by omega) (fun j hj => by
      rcases Nat.lt_or_ge j k with z | z
      · exact hok j z
      · rw [show j = k by omega]; exact decide_eq_true ⟨c18, c25⟩)
          · refine z_iconst (pc := 28) (v := 0) F dX5_isPlain_28 (by decide) ?_
            exact z_zret (pc := 29) F hR rfl dX5_isPlain_29 (Nat.le_of_ble_eq_true rfl) (Nat.le_of_ble_eq_true rfl) ⟨rfl, rfl⟩
  exact L2 _ 0 (Nat.lt_succ_self _) (Nat.zero_le _) (fun j h => absurd h (Nat.not_lt_zero _))
set_option maxHeartbeats 4000000 in
set_option maxRecDepth 100000 in
theorem c_X5_isPlain_y (l : Launch) (E : zE) (w : Int64) (nn : Nat) (h1 : 1 ≤ nn) (h8 : nn ≤ 8) (hall : ∀ j : Nat, j < nn → okB w j = true) : Ct l yX5_isPlain cX5_isPlain 5 (some .boolean) ({ frames := 1, cells := 0, slots := 0, locals := 22 } : Room) E ([]) [.long w, .int (nI nn)] (fun v_ w_ => v_ = some (.int (bI true)) ∧ w_ = []) := by
  refine Ct.of (by decide) (Nat.le_of_ble_eq_true rfl) (lv := [(0, .long w), (2, .int (nI nn))]) rfl ?_
  intro X F hR
  have F : zF X l ({ frames := 1, cells := 0, slots := 0, locals := 22 } : Room) E cX5_isPlain 5 "LiveQueries$Tape" := F
  refine z_iconst (pc := 0) (v := 0) F dX5_isPlain_0 (by decide) ?_
  refine z_istore_n (pc := 1) (lv' := [(0, .long w), (2, .int (nI nn)), (3, .int 0)]) F dX5_isPlain_1 rfl (by decide) [1, 2, 0] rfl ?_
  have L2 : ∀ (N : Nat) (k : Nat), (nn - k) < N → (k ≤ nn) → (∀ j : Nat, j < k → okB w j = true) → Z X (0) (0) ([]) [(0, .long w), (2, .int (nI nn)), (3, .int (nI k))] 2 [] := by
    intro N
    induction N with
    | zero => intro k hN; exact absurd hN (Nat.not_lt_zero _)
    | succ N ih2 =>
      intro k hN hk hok
      refine z_iload_n (pc := 2) F dX5_isPlain_2 rfl 2 rfl ?_
      refine z_iload_n (pc := 3) F dX5_isPlain_3 rfl 1 rfl ?_
      refine z_icmp_ge (pc := 4) (tgt := 36) F dX5_isPlain_4 (by decide) (fun c4 => ?_) (fun c4 => ?_)
      · refine z_iconst (pc := 36) (v := 1) F dX5_isPlain_36 (by decide) ?_
        exact z_zret (pc := 37) F hR rfl dX5_isPlain_37 (Nat.le_of_ble_eq_true rfl) (Nat.le_of_ble_eq_true rfl) ⟨rfl, rfl⟩
      · have hkl := ngI (by omega) (by omega) c4
        refine z_lload_n (pc := 7) F dX5_isPlain_7 rfl 0 rfl ?_
        refine z_iload_n (pc := 8) F dX5_isPlain_8 rfl 2 rfl ?_
        refine z_callS0 (pc := 9) (rest := []) F (c_X5_byteOf l E w k (by omega)) 2 ww_Tape_23 (by decide +kernel) rfl ⟨Nat.le_of_ble_eq_true rfl, Nat.le_of_ble_eq_true rfl⟩ ⟨Nat.le_of_ble_eq_true rfl, Nat.le_of_ble_eq_true rfl⟩ rfl (Nat.le_of_ble_eq_true rfl) dX5_isPlain_9 (fun v_ w1_ hp => ?_)
        obtain ⟨rfl, rfl⟩ := hp
        show Z X (0) (0) ([]) [(0, .long w), (2, .int (nI nn)), (3, .int (nI k))] 12 [.int (byI w k)]
        refine z_istore (pc := 12) (lv' := [(0, .long w), (2, .int (nI nn)), (3, .int (nI k)), (4, .int (byI w k))]) F dX5_isPlain_12 (by decide) [1, 2, 3, 0] rfl ?_
        refine z_iload (pc := 14) F dX5_isPlain_14 3 rfl ?_
        refine z_bipush (pc := 16) (v := 33) F dX5_isPlain_16 (by decide) ?_
        refine z_icmp_lt (pc := 18) (tgt := 28) F dX5_isPlain_18 (by decide) (fun c18 => absurd c18 (of_decide_eq_true (hall k (by omega))).1) (fun c18 => ?_)
        refine z_iload (pc := 21) F dX5_isPlain_21 3 rfl ?_
        refine z_bipush (pc := 23) (v := 126) F dX5_isPlain_23 (by decide) ?_
        refine z_icmp_le (pc := 25) (tgt := 30) F dX5_isPlain_25 (by decide) (fun c25 => ?_) (fun c25 => absurd (of_decide_eq_true (hall k (by omega))).2 c25)
        refine z_iinc (pc := 30) (v := nI (k + 1)) (lv' := [(0, .long w), (2, .int (nI nn)), (3, .int (nI (k + 1))), (4, .int (byI w k))]) F (j := 2) dX5_isPlain_30 rfl (nI_1 _) (by decide) [1, 2, 0, 3] rfl ?_
        refine z_goto (pc := 33) (tgt := 2) F dX5_isPlain_33 (by decide) ?_
        refine z_locals (lv' := [(0, .long w), (2, .int (nI nn)), (3, .int (nI (k + 1)))]) [0, 1, 2] rfl ?_
        exact ih2 (k + 1) (by omega) (by omega) (fun j hj => hall j (by omega))
  exact L2 _ 0 (Nat.lt_succ_self _) (Nat.zero_le _) (fun j h => absurd h (Nat.not_lt_zero _))
set_option maxHeartbeats 4000000 in
set_option maxRecDepth 100000 in
theorem c_X5_append_b (l : Launch) (E : zE) (r : Nat → Nat) (S : zS) (tp : Nat) (w : Int64) (nn : Nat) (htp : zi S 0 = nI tp) (ht8 : tp ≤ 80) (h1 : 1 ≤ nn) (h8 : nn ≤ 8) (hs : tp + nn ≤ 80) (hbad : ∃ j : Nat, j < nn ∧ okB w j = false) : Ct l yX5_append cX5_append 5 (some .boolean) ({ frames := 2, cells := 0, slots := 0, locals := 60 } : Room) E (tpw E r S) [.ref (r 0), .long w, .int (nI nn)] (fun v_ w_ => v_ = some (.int (bI false)) ∧ w_ = tpw E r (zI S 0 (nI tp))) := by
  refine Ct.of (by decide) (Nat.le_of_ble_eq_true rfl) (lv := [(0, .ref (r 0)), (1, .long w), (3, .int (nI nn))]) rfl ?_
  intro X F hR
  have F : zF X l ({ frames := 2, cells := 0, slots := 0, locals := 60 } : Room) E cX5_append 5 "LiveQueries$Tape" := F
  show Z X 0 0 (tpw E r (zI S 0 (zi S 0))) [(0, .ref (r 0)), (1, .long w), (3, .int (nI nn))] 0 []
  rw [htp]
  refine z_iload_n (pc := 0) F dX5_append_0 rfl 2 rfl ?_
  refine z_iconst (pc := 1) (v := 1) F dX5_append_1 (by decide) ?_
  refine z_icmp_lt (pc := 2) (tgt := 30) F dX5_append_2 (by decide) (fun c2 => absurd c2 (fun h => absurd ((nI_ltI (b := 1) (by omega) (by decide)).mp h) (by omega))) (fun c2 => ?_)
  refine z_iload_n (pc := 5) F dX5_append_5 rfl 2 rfl ?_
  refine z_bipush (pc := 6) (v := 8) F dX5_append_6 (by decide) ?_
  refine z_icmp_gt (pc := 8) (tgt := 30) F dX5_append_8 (by decide) (fun c8 => absurd c8 (fun h => absurd ((nI_ltI (a := 8) (by decide) (by omega)).mp h) (by omega))) (fun c8 => ?_)
  refine z_aload_n (pc := 11) F dX5_append_11 rfl 0 rfl ?_
  refine z_get (pc := 12) (v := .int (nI tp)) F iX5 0 rfl rfl 1 (by decide) tw_133 rfl dX5_append_12 ?_
  refine z_iload_n (pc := 15) F dX5_append_15 rfl 2 rfl ?_
  refine z_iadd (pc := 16) F dX5_append_16 ?_
  rw [show ((nI tp) + (nI nn)) = nI (tp + nn) from (nI_add _ _)]
  refine z_bipush (pc := 17) (v := 80) F dX5_append_17 (by decide) ?_
  refine z_icmp_gt (pc := 19) (tgt := 30) F dX5_append_19 (by decide) (fun c19 => absurd c19 (fun h => absurd ((nI_ltI (a := 80) (by decide) (by omega)).mp h) (by omega))) (fun c19 => ?_)
  refine z_lload_n (pc := 22) F dX5_append_22 rfl 1 rfl ?_
  refine z_iload_n (pc := 23) F dX5_append_23 rfl 2 rfl ?_
  refine z_callS0 (pc := 24) (rest := []) F (c_X5_isPlain_b l E w nn h1 h8 hbad) 2 ww_Tape_19 (by decide +kernel) rfl ⟨Nat.le_of_ble_eq_true rfl, Nat.le_of_ble_eq_true rfl⟩ ⟨Nat.le_of_ble_eq_true rfl, Nat.le_of_ble_eq_true rfl⟩ rfl (Nat.le_of_ble_eq_true rfl) dX5_append_24 (fun v_ w1_ hp => ?_)
  obtain ⟨rfl, rfl⟩ := hp
  show Z X (0) (0) (tpw E r (zI S 0 (nI tp))) [(0, .ref (r 0)), (1, .long w), (3, .int (nI nn))] 27 [.int (bI false)]
  rw [show (bI false) = 0 from rfl]
  refine z_if_ne (pc := 27) (tgt := 32) F dX5_append_27 (by decide) (fun h => absurd h (by decide)) (fun _ => ?_)
  refine z_iconst (pc := 30) (v := 0) F dX5_append_30 (by decide) ?_
  exact z_zret (pc := 31) F hR rfl dX5_append_31 (Nat.le_of_ble_eq_true rfl) (Nat.le_of_ble_eq_true rfl) ⟨rfl, rfl⟩
set_option maxHeartbeats 4000000 in
set_option maxRecDepth 100000 in
theorem c_X5_append_y (l : Launch) (E : zE) (r : Nat → Nat) (S : zS) (tp : Nat) (w : Int64) (nn : Nat) (htp : zi S 0 = nI tp) (ht8 : tp ≤ 80) (h1 : 1 ≤ nn) (h8 : nn ≤ 8) (hs : tp + nn ≤ 80) (hall : ∀ j : Nat, j < nn → okB w j = true) : Ct l yX5_append cX5_append 5 (some .boolean) ({ frames := 2, cells := 0, slots := 0, locals := 60 } : Room) E (tpw E r S) [.ref (r 0), .long w, .int (nI nn)] (fun v_ w_ => ∃ tape' : Nat → Int32, v_ = some (.int (bI true)) ∧ w_ = tpw E r (zI (zAw S 1 tape') 0 (nI (tp + nn))) ∧ (∀ k : Nat, k < tp → tape' k = za S 1 k) ∧ (∀ i : Nat, i < nn → tape' (tp + i) = byI w (nn - 1 - i))) := by
  refine Ct.of (by decide) (Nat.le_of_ble_eq_true rfl) (lv := [(0, .ref (r 0)), (1, .long w), (3, .int (nI nn))]) rfl ?_
  intro X F hR
  have F : zF X l ({ frames := 2, cells := 0, slots := 0, locals := 60 } : Room) E cX5_append 5 "LiveQueries$Tape" := F
  show Z X 0 0 (tpw E r (zI S 0 (zi S 0))) [(0, .ref (r 0)), (1, .long w), (3, .int (nI nn))] 0 []
  rw [htp]
  refine z_iload_n (pc := 0) F dX5_append_0 rfl 2 rfl ?_
  refine z_iconst (pc := 1) (v := 1) F dX5_append_1 (by decide) ?_
  refine z_icmp_lt (pc := 2) (tgt := 30) F dX5_append_2 (by decide) (fun c2 => absurd c2 (fun h => absurd ((nI_ltI (b := 1) (by omega) (by decide)).mp h) (by omega))) (fun c2 => ?_)
  refine z_iload_n (pc := 5) F dX5_append_5 rfl 2 rfl ?_
  refine z_bipush (pc := 6) (v := 8) F dX5_append_6 (by decide) ?_
  refine z_icmp_gt (pc := 8) (tgt := 30) F dX5_append_8 (by decide) (fun c8 => absurd c8 (fun h => absurd ((nI_ltI (a := 8) (by decide) (by omega)).mp h) (by omega))) (fun c8 => ?_)
  refine z_aload_n (pc := 11) F dX5_append_11 rfl 0 rfl ?_
  refine z_get (pc := 12) (v := .int (nI tp)) F iX5 0 rfl rfl 1 (by decide) tw_133 rfl dX5_append_12 ?_
  refine z_iload_n (pc := 15) F dX5_append_15 rfl 2 rfl ?_
  refine z_iadd (pc := 16) F dX5_append_16 ?_
  rw [show ((nI tp) + (nI nn)) = nI (tp + nn) from (nI_add _ _)]
  refine z_bipush (pc := 17) (v := 80) F dX5_append_17 (by decide) ?_
  refine z_icmp_gt (pc := 19) (tgt := 30) F dX5_append_19 (by decide) (fun c19 => absurd c19 (fun h => absurd ((nI_ltI (a := 80) (by decide) (by omega)).mp h) (by omega))) (fun c19 => ?_)
  refine z_lload_n (pc := 22) F dX5_append_22 rfl 1 rfl ?_
  refine z_iload_n (pc := 23) F dX5_append_23 rfl 2 rfl ?_
  refine z_callS0 (pc := 24) (rest := []) F (c_X5_isPlain_y l E w nn h1 h8 hall) 2 ww_Tape_19 (by decide +kernel) rfl ⟨Nat.le_of_ble_eq_true rfl, Nat.le_of_ble_eq_true rfl⟩ ⟨Nat.le_of_ble_eq_true rfl, Nat.le_of_ble_eq_true rfl⟩ rfl (Nat.le_of_ble_eq_true rfl) dX5_append_24 (fun v_ w1_ hp => ?_)
  obtain ⟨rfl, rfl⟩ := hp
  show Z X (0) (0) (tpw E r (zI S 0 (nI tp))) [(0, .ref (r 0)), (1, .long w), (3, .int (nI nn))] 27 [.int (bI true)]
  rw [show (bI true) = 1 from rfl]
  refine z_if_ne (pc := 27) (tgt := 32) F dX5_append_27 (by decide) (fun _ => ?_) (fun h => absurd h (by decide))
  refine z_iload_n (pc := 32) F dX5_append_32 rfl 2 rfl ?_
  refine z_iconst (pc := 33) (v := 1) F dX5_append_33 (by decide) ?_
  refine z_isub (pc := 34) F dX5_append_34 ?_
  refine z_istore (pc := 35) (lv' := [(0, .ref (r 0)), (1, .long w), (3, .int (nI nn)), (4, .int ((nI nn) - 1))]) F dX5_append_35 (by decide) [1, 2, 3, 0] rfl ?_
  have L37 : ∀ (N : Nat) (j : Nat) (tape' : Nat → Int32), j < N → (j ≤ nn) → (∀ k : Nat, k < tp → tape' k = za S 1 k) → (∀ i : Nat, i < nn - j → tape' (tp + i) = byI w (nn - 1 - i)) → Z X (0) (0) (tpw E r (zI (zAw S 1 tape') 0 (nI (tp + (nn - j))))) [(0, .ref (r 0)), (1, .long w), (3, .int (nI nn)), (4, .int (nI j - 1))] 37 [] := by
    intro N
    induction N with
    | zero => intro j tape' hN; exact absurd hN (Nat.not_lt_zero _)
    | succ N ih37 =>
      intro j tape' hN hj hA hB
      rcases Nat.eq_zero_or_pos j with hz | hz
      · subst hz
        refine z_iload (pc := 37) F dX5_append_37 3 rfl ?_
        refine z_if_lt (pc := 39) (tgt := 73) F dX5_append_39 (by decide) (fun c39 => ?_) (fun c39 => absurd m1_neg c39)
        refine z_iconst (pc := 73) (v := 1) F dX5_append_73 (by decide) ?_
        exact z_zret (pc := 74) F hR rfl dX5_append_74 (Nat.le_of_ble_eq_true rfl) (Nat.le_of_ble_eq_true rfl) ⟨tape', rfl, rfl, hA, fun i hi => hB i (by omega)⟩
      · obtain ⟨j', rfl⟩ : ∃ j', j = j' + 1 := ⟨j - 1, by omega⟩
        refine z_iload (pc := 37) F dX5_append_37 3 rfl ?_
        refine z_if_lt (pc := 39) (tgt := 73) F dX5_append_39 (by decide) (fun c39 => absurd c39 (by rw [nI_pred]; exact nI_pos (by omega))) (fun c39 => ?_)
        rw [show nI (j' + 1) - 1 = nI j' from nI_pred j']
        refine z_aload_n (pc := 42) F dX5_append_42 rfl 0 rfl ?_
        refine z_get (pc := 43) (v := .ref (r 1)) F iX5 0 rfl rfl 0 (by decide) tw_131 rfl dX5_append_43 ?_
        refine z_aload_n (pc := 46) F dX5_append_46 rfl 0 rfl ?_
        refine z_get (pc := 47) (v := .int (nI (tp + (nn - (j' + 1))))) F iX5 0 rfl rfl 1 (by decide) tw_133 rfl dX5_append_47 ?_
        refine z_lload_n (pc := 50) F dX5_append_50 rfl 1 rfl ?_
        refine z_iload (pc := 51) F dX5_append_51 3 rfl ?_
        refine z_callS0 (pc := 53) (rest := [.int (nI (tp + (nn - (j' + 1)))), .ref (r 1)]) F (c_X5_byteOf l E w j' (by omega)) 2 ww_Tape_23 (by decide +kernel) rfl ⟨Nat.le_of_ble_eq_true rfl, Nat.le_of_ble_eq_true rfl⟩ ⟨Nat.le_of_ble_eq_true rfl, Nat.le_of_ble_eq_true rfl⟩ rfl (Nat.le_of_ble_eq_true rfl) dX5_append_53 (fun v_ w1_ hp => ?_)
        obtain ⟨rfl, rfl⟩ := hp
        show Z X (0) (0) (tpw E r (zI (zAw S 1 tape') 0 (nI (tp + (nn - (j' + 1)))))) [(0, .ref (r 0)), (1, .long w), (3, .int (nI nn)), (4, .int (nI j'))] 56 [.int (byI w j'), .int (nI (tp + (nn - (j' + 1)))), .ref (r 1)]
        refine z_castN (pc := 56) (ws' := tpw E r (zA (zI (zAw S 1 tape') 0 (nI (tp + (nn - (j' + 1))))) 1 (tp + (nn - (j' + 1))) (byI w j'))) (f := tape') F 1 3 rfl rfl (tp + (nn - (j' + 1))) rfl (by omega) (by decide) (byI_vp w j') dX5_append_56 rfl ?_
        refine z_aload_n (pc := 57) F dX5_append_57 rfl 0 rfl ?_
        refine z_dup (pc := 58) F dX5_append_58 rfl ?_
        refine z_get (pc := 59) (v := .int (nI (tp + (nn - (j' + 1))))) F iX5 0 rfl rfl 1 (by decide) tw_133 rfl dX5_append_59 ?_
        refine z_iconst (pc := 62) (v := 1) F dX5_append_62 (by decide) ?_
        refine z_iadd (pc := 63) F dX5_append_63 ?_
        rw [show ((nI (tp + (nn - (j' + 1)))) + 1) = nI (tp + (nn - j')) from (by rw [nI_1]; congr 1; omega)]
        refine z_put (pc := 64) (ws' := tpw E r (zI (zA (zI (zAw S 1 tape') 0 (nI (tp + (nn - (j' + 1))))) 1 (tp + (nn - (j' + 1))) (byI w j')) 0 (nI (tp + (nn - j'))))) F iX5 tyX5 tyX5_ok nmX5 0 rfl rfl 1 (by decide) tw_133 rfl rfl rfl (Nat.le_of_ble_eq_true rfl) dX5_append_64 rfl ?_
        refine z_iinc (pc := 67) (v := nI j' - 1) (lv' := [(0, .ref (r 0)), (1, .long w), (3, .int (nI nn)), (4, .int (nI j' - 1))]) F (j := 3) dX5_append_67 rfl (m1_s j') (by decide) [1, 2, 3, 0] rfl ?_
        refine z_goto (pc := 70) (tgt := 37) F dX5_append_70 (by decide) ?_
        exact ih37 j' _ (by omega) (by omega) (fun k hk => by rw [pk_un (by omega)]; exact hA k hk) (fun i hi => by
      rcases Nat.lt_or_ge i (nn - (j' + 1)) with z | z
      · rw [pk_un (by omega)]; exact hB i z
      · have e1 : i = nn - (j' + 1) := by omega
        subst e1; rw [pk_us]; congr 1; omega)
  have L37z := L37 _ nn (za S 1) (Nat.lt_succ_self _) (Nat.le_refl _) (fun _ _ => rfl) (fun i hi => absurd hi (by omega))
  rw [show tp + (nn - nn) = tp by omega] at L37z
  exact L37z
set_option maxHeartbeats 4000000 in
set_option maxRecDepth 100000 in
theorem c_X5_append_n (l : Launch) (E : zE) (r : Nat → Nat) (S : zS) (tp : Nat) (w : Int64) (n : Int32) (htp : zi S 0 = nI tp) (hno : ¬ (1 ≤ n ∧ n ≤ 8 ∧ nI tp + n ≤ 80)) : Ct l yX5_append cX5_append 5 (some .boolean) ({ frames := 2, cells := 0, slots := 0, locals := 60 } : Room) E (tpw E r S) [.ref (r 0), .long w, .int n] (fun v_ w_ => v_ = some (.int (bI false)) ∧ w_ = tpw E r S) := by
  refine Ct.of (by decide) (Nat.le_of_ble_eq_true rfl) (lv := [(0, .ref (r 0)), (1, .long w), (3, .int n)]) rfl ?_
  intro X F hR
  have F : zF X l ({ frames := 2, cells := 0, slots := 0, locals := 60 } : Room) E cX5_append 5 "LiveQueries$Tape" := F
  refine z_iload_n (pc := 0) F dX5_append_0 rfl 2 rfl ?_
  refine z_iconst (pc := 1) (v := 1) F dX5_append_1 (by decide) ?_
  refine z_icmp_lt (pc := 2) (tgt := 30) F dX5_append_2 (by decide) (fun c2 => ?_) (fun c2 => ?_)
  · refine z_iconst (pc := 30) (v := 0) F dX5_append_30 (by decide) ?_
    exact z_zret (pc := 31) F hR rfl dX5_append_31 (Nat.le_of_ble_eq_true rfl) (Nat.le_of_ble_eq_true rfl) ⟨rfl, rfl⟩
  · refine z_iload_n (pc := 5) F dX5_append_5 rfl 2 rfl ?_
    refine z_bipush (pc := 6) (v := 8) F dX5_append_6 (by decide) ?_
    refine z_icmp_gt (pc := 8) (tgt := 30) F dX5_append_8 (by decide) (fun c8 => ?_) (fun c8 => ?_)
    · refine z_iconst (pc := 30) (v := 0) F dX5_append_30 (by decide) ?_
      exact z_zret (pc := 31) F hR rfl dX5_append_31 (Nat.le_of_ble_eq_true rfl) (Nat.le_of_ble_eq_true rfl) ⟨rfl, rfl⟩
    · refine z_aload_n (pc := 11) F dX5_append_11 rfl 0 rfl ?_
      refine z_get (pc := 12) (v := .int (zi S 0)) F iX5 0 rfl rfl 1 (by decide) tw_133 rfl dX5_append_12 ?_
      rw [show (zi S 0) = nI tp from htp]
      refine z_iload_n (pc := 15) F dX5_append_15 rfl 2 rfl ?_
      refine z_iadd (pc := 16) F dX5_append_16 ?_
      refine z_bipush (pc := 17) (v := 80) F dX5_append_17 (by decide) ?_
      refine z_icmp_gt (pc := 19) (tgt := 30) F dX5_append_19 (by decide) (fun c19 => ?_) (fun c19 => ?_)
      · refine z_iconst (pc := 30) (v := 0) F dX5_append_30 (by decide) ?_
        exact z_zret (pc := 31) F hR rfl dX5_append_31 (Nat.le_of_ble_eq_true rfl) (Nat.le_of_ble_eq_true rfl) ⟨rfl, rfl⟩
      · exact absurd ⟨i_nlt c2, i_nlt c8, i_nlt c19⟩ hno
set_option maxHeartbeats 4000000 in
set_option maxRecDepth 100000 in
theorem c_X5_clear (l : Launch) (E : zE) (r : Nat → Nat) (S : zS) : Ct l yX5_clear cX5_clear 1 (none) ({ frames := 0, cells := 0, slots := 0, locals := 0 } : Room) E (tpw E r S) [.ref (r 0)] (fun v_ w_ => v_ = none ∧ w_ = tpw E r (zI S 0 0)) := by
  refine Ct.of (by decide) (Nat.le_of_ble_eq_true rfl) (lv := [(0, .ref (r 0))]) rfl ?_
  intro X F hR
  have F : zF X l ({ frames := 0, cells := 0, slots := 0, locals := 0 } : Room) E cX5_clear 1 "LiveQueries$Tape" := F
  refine z_aload_n (pc := 0) F dX5_clear_0 rfl 0 rfl ?_
  refine z_iconst (pc := 1) (v := 0) F dX5_clear_1 (by decide) ?_
  refine z_put (pc := 2) (ws' := tpw E r (zI S 0 0)) F iX5 tyX5 tyX5_ok nmX5 0 rfl rfl 1 (by decide) tw_133 rfl rfl rfl (Nat.le_of_ble_eq_true rfl) dX5_clear_2 rfl ?_
  exact z_vret (pc := 5) F hR dX5_clear_5 (Nat.le_of_ble_eq_true rfl) (Nat.le_of_ble_eq_true rfl) ⟨rfl, rfl⟩

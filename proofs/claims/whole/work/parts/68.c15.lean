theorem dJ13_bitCount_95d88_0 : decode cJ13_bitCount_95d88 0 = .ok (.lload_n 0, 1) := by decide +kernel
theorem dJ13_bitCount_95d88_1 : decode cJ13_bitCount_95d88 1 = .ok (.lload_n 0, 1) := by decide +kernel
theorem dJ13_bitCount_95d88_2 : decode cJ13_bitCount_95d88 2 = .ok (.iconst 1, 1) := by decide +kernel
theorem dJ13_bitCount_95d88_3 : decode cJ13_bitCount_95d88 3 = .ok (.lushr, 1) := by decide +kernel
theorem dJ13_bitCount_95d88_4 : decode cJ13_bitCount_95d88 4 = .ok (.ldc2_w 314, 3) := by decide +kernel
theorem dJ13_bitCount_95d88_7 : decode cJ13_bitCount_95d88 7 = .ok (.land, 1) := by decide +kernel
theorem dJ13_bitCount_95d88_8 : decode cJ13_bitCount_95d88 8 = .ok (.lsub, 1) := by decide +kernel
theorem dJ13_bitCount_95d88_9 : decode cJ13_bitCount_95d88 9 = .ok (.lstore_n 0, 1) := by decide +kernel
theorem dJ13_bitCount_95d88_10 : decode cJ13_bitCount_95d88 10 = .ok (.lload_n 0, 1) := by decide +kernel
theorem dJ13_bitCount_95d88_11 : decode cJ13_bitCount_95d88 11 = .ok (.ldc2_w 316, 3) := by decide +kernel
theorem dJ13_bitCount_95d88_14 : decode cJ13_bitCount_95d88 14 = .ok (.land, 1) := by decide +kernel
theorem dJ13_bitCount_95d88_15 : decode cJ13_bitCount_95d88 15 = .ok (.lload_n 0, 1) := by decide +kernel
theorem dJ13_bitCount_95d88_16 : decode cJ13_bitCount_95d88 16 = .ok (.iconst 2, 1) := by decide +kernel
theorem dJ13_bitCount_95d88_17 : decode cJ13_bitCount_95d88 17 = .ok (.lushr, 1) := by decide +kernel
theorem dJ13_bitCount_95d88_18 : decode cJ13_bitCount_95d88 18 = .ok (.ldc2_w 316, 3) := by decide +kernel
theorem dJ13_bitCount_95d88_21 : decode cJ13_bitCount_95d88 21 = .ok (.land, 1) := by decide +kernel
theorem dJ13_bitCount_95d88_22 : decode cJ13_bitCount_95d88 22 = .ok (.ladd, 1) := by decide +kernel
theorem dJ13_bitCount_95d88_23 : decode cJ13_bitCount_95d88 23 = .ok (.lstore_n 0, 1) := by decide +kernel
theorem dJ13_bitCount_95d88_24 : decode cJ13_bitCount_95d88 24 = .ok (.lload_n 0, 1) := by decide +kernel
theorem dJ13_bitCount_95d88_25 : decode cJ13_bitCount_95d88 25 = .ok (.lload_n 0, 1) := by decide +kernel
theorem dJ13_bitCount_95d88_26 : decode cJ13_bitCount_95d88 26 = .ok (.iconst 4, 1) := by decide +kernel
theorem dJ13_bitCount_95d88_27 : decode cJ13_bitCount_95d88 27 = .ok (.lushr, 1) := by decide +kernel
theorem dJ13_bitCount_95d88_28 : decode cJ13_bitCount_95d88 28 = .ok (.ladd, 1) := by decide +kernel
theorem dJ13_bitCount_95d88_29 : decode cJ13_bitCount_95d88 29 = .ok (.ldc2_w 318, 3) := by decide +kernel
theorem dJ13_bitCount_95d88_32 : decode cJ13_bitCount_95d88 32 = .ok (.land, 1) := by decide +kernel
theorem dJ13_bitCount_95d88_33 : decode cJ13_bitCount_95d88 33 = .ok (.lstore_n 0, 1) := by decide +kernel
theorem dJ13_bitCount_95d88_34 : decode cJ13_bitCount_95d88 34 = .ok (.lload_n 0, 1) := by decide +kernel
theorem dJ13_bitCount_95d88_35 : decode cJ13_bitCount_95d88 35 = .ok (.lload_n 0, 1) := by decide +kernel
theorem dJ13_bitCount_95d88_36 : decode cJ13_bitCount_95d88 36 = .ok (.bipush 8, 2) := by decide +kernel
theorem dJ13_bitCount_95d88_38 : decode cJ13_bitCount_95d88 38 = .ok (.lushr, 1) := by decide +kernel
theorem dJ13_bitCount_95d88_39 : decode cJ13_bitCount_95d88 39 = .ok (.ladd, 1) := by decide +kernel
theorem dJ13_bitCount_95d88_40 : decode cJ13_bitCount_95d88 40 = .ok (.lstore_n 0, 1) := by decide +kernel
theorem dJ13_bitCount_95d88_41 : decode cJ13_bitCount_95d88 41 = .ok (.lload_n 0, 1) := by decide +kernel
theorem dJ13_bitCount_95d88_42 : decode cJ13_bitCount_95d88 42 = .ok (.lload_n 0, 1) := by decide +kernel
theorem dJ13_bitCount_95d88_43 : decode cJ13_bitCount_95d88 43 = .ok (.bipush 16, 2) := by decide +kernel
theorem dJ13_bitCount_95d88_45 : decode cJ13_bitCount_95d88 45 = .ok (.lushr, 1) := by decide +kernel
theorem dJ13_bitCount_95d88_46 : decode cJ13_bitCount_95d88 46 = .ok (.ladd, 1) := by decide +kernel
theorem dJ13_bitCount_95d88_47 : decode cJ13_bitCount_95d88 47 = .ok (.lstore_n 0, 1) := by decide +kernel
theorem dJ13_bitCount_95d88_48 : decode cJ13_bitCount_95d88 48 = .ok (.lload_n 0, 1) := by decide +kernel
theorem dJ13_bitCount_95d88_49 : decode cJ13_bitCount_95d88 49 = .ok (.lload_n 0, 1) := by decide +kernel
theorem dJ13_bitCount_95d88_50 : decode cJ13_bitCount_95d88 50 = .ok (.bipush 32, 2) := by decide +kernel
theorem dJ13_bitCount_95d88_52 : decode cJ13_bitCount_95d88 52 = .ok (.lushr, 1) := by decide +kernel
theorem dJ13_bitCount_95d88_53 : decode cJ13_bitCount_95d88 53 = .ok (.ladd, 1) := by decide +kernel
theorem dJ13_bitCount_95d88_54 : decode cJ13_bitCount_95d88 54 = .ok (.lstore_n 0, 1) := by decide +kernel
theorem dJ13_bitCount_95d88_55 : decode cJ13_bitCount_95d88 55 = .ok (.lload_n 0, 1) := by decide +kernel
theorem dJ13_bitCount_95d88_56 : decode cJ13_bitCount_95d88 56 = .ok (.l2i, 1) := by decide +kernel
theorem dJ13_bitCount_95d88_57 : decode cJ13_bitCount_95d88 57 = .ok (.bipush 127, 2) := by decide +kernel
theorem dJ13_bitCount_95d88_59 : decode cJ13_bitCount_95d88 59 = .ok (.iand, 1) := by decide +kernel
theorem dJ13_bitCount_95d88_60 : decode cJ13_bitCount_95d88 60 = .ok (.ireturn, 1) := by decide +kernel
theorem dJ9_min_7cf53_0 : decode cJ9_min_7cf53 0 = .ok (.iload_n 0, 1) := by decide +kernel
theorem dJ9_min_7cf53_1 : decode cJ9_min_7cf53 1 = .ok (.iload_n 1, 1) := by decide +kernel
theorem dJ9_min_7cf53_2 : decode cJ9_min_7cf53 2 = .ok (.if_icmp .gt 7, 3) := by decide +kernel
theorem dJ9_min_7cf53_5 : decode cJ9_min_7cf53 5 = .ok (.iload_n 0, 1) := by decide +kernel
theorem dJ9_min_7cf53_6 : decode cJ9_min_7cf53 6 = .ok (.goto 4, 3) := by decide +kernel
theorem dJ9_min_7cf53_9 : decode cJ9_min_7cf53 9 = .ok (.iload_n 1, 1) := by decide +kernel
theorem dJ9_min_7cf53_10 : decode cJ9_min_7cf53 10 = .ok (.ireturn, 1) := by decide +kernel
theorem tw_492 : Cond.constantLong "java/lang/Long" 314 6148914691236517205 ∈ lw_tb := tb 492 (by decide +kernel) (by decide +kernel)
theorem tw_493 : Cond.constantLong "java/lang/Long" 316 3689348814741910323 ∈ lw_tb := tb 493 (by decide +kernel) (by decide +kernel)
theorem tw_494 : Cond.constantLong "java/lang/Long" 318 1085102592571150095 ∈ lw_tb := tb 494 (by decide +kernel) (by decide +kernel)
set_option maxHeartbeats 4000000 in
set_option maxRecDepth 100000 in
theorem c_J9_min_7cf53 (l : Launch) (E : zE) (a : Nat) (b : Nat) (ha : a < 2 ^ 31) (hb : b < 2 ^ 31) : Ct l yJ9_min_7cf53 cJ9_min_7cf53 2 (some .int) ({ frames := 0, cells := 0, slots := 0, locals := 0 } : Room) E ([]) [.int (nI a), .int (nI b)] (fun v_ w_ => v_ = some (.int (nI (if b < a then b else a))) ∧ w_ = []) := by
  refine Ct.ofF (by decide +kernel) (Nat.le_of_ble_eq_true rfl) (lv := [(0, .int (nI a)), (1, .int (nI b))]) rfl ?_
  intro X F hR
  have F : zF X l ({ frames := 0, cells := 0, slots := 0, locals := 0 } : Room) E cJ9_min_7cf53 2 "java/lang/Math" := F
  refine z_iload_n (pc := 0) F dJ9_min_7cf53_0 rfl 0 rfl ?_
  refine z_iload_n (pc := 1) F dJ9_min_7cf53_1 rfl 1 rfl ?_
  refine z_icmp_gt (pc := 2) (tgt := 9) F dJ9_min_7cf53_2 (by decide) (fun c2 => ?_) (fun c2 => ?_)
  · have k2 : b < a := (nI_ltI hb ha).mp c2
    refine z_iload_n (pc := 9) F dJ9_min_7cf53_9 rfl 1 rfl ?_
    exact z_iret (pc := 10) F hR dJ9_min_7cf53_10 (Nat.le_of_ble_eq_true rfl) (Nat.le_of_ble_eq_true rfl) ⟨by rw [if_pos k2], rfl⟩
  · have k2 : ¬ b < a := fun h => c2 (nI_lt h ha)
    refine z_iload_n (pc := 5) F dJ9_min_7cf53_5 rfl 0 rfl ?_
    refine z_goto (pc := 6) (tgt := 10) F dJ9_min_7cf53_6 (by decide) ?_
    exact z_iret (pc := 10) F hR dJ9_min_7cf53_10 (Nat.le_of_ble_eq_true rfl) (Nat.le_of_ble_eq_true rfl) ⟨by rw [if_neg k2], rfl⟩
set_option maxHeartbeats 4000000 in
set_option maxRecDepth 100000 in
theorem c_X1_inCount (l : Launch) (E : zE) (r : Nat → Nat) (rp : Nat → Nat) (rg : Nat → Nat) (rs : Nat → Nat) (rw : Nat → Nat) (S : zS) (oc : Int32) (sh : Int64) (we : Int64) (ca : Int64) (hg : Nat → Int64) (inn : Nat → Int32) (ky : Nat → Int64) (gv : Nat → Int64) (am : Nat → Int64) (od : Nat → Int32) : Ct l yX1_inCount cX1_inCount 1 (some .int) ({ frames := 0, cells := 0, slots := 0, locals := 0 } : Room) E (kpw E r (rp 0) (rg 0) (rs 0) (rw 0) (mkp S oc sh we ca hg inn ky gv am od)) [.ref (r 0)] (fun v_ w_ => v_ = some (.int oc) ∧ w_ = kpw E r (rp 0) (rg 0) (rs 0) (rw 0) (mkp S oc sh we ca hg inn ky gv am od)) := by
  refine Ct.of (by decide) (Nat.le_of_ble_eq_true rfl) (lv := [(0, .ref (r 0))]) rfl ?_
  intro X F hR
  have F : zF X l ({ frames := 0, cells := 0, slots := 0, locals := 0 } : Room) E cX1_inCount 1 "LiveQueries$Kept" := F
  refine z_aload_n (pc := 0) F dX1_inCount_0 rfl 0 rfl ?_
  refine z_get (pc := 1) (v := .int oc) F iX1 0 rfl rfl 10 (by decide) tw_273 rfl dX1_inCount_1 ?_
  exact z_iret (pc := 4) F hR dX1_inCount_4 (Nat.le_of_ble_eq_true rfl) (Nat.le_of_ble_eq_true rfl) ⟨rfl, rfl⟩
set_option maxHeartbeats 4000000 in
set_option maxRecDepth 100000 in
theorem c_X1_shownCount (l : Launch) (E : zE) (r : Nat → Nat) (rp : Nat → Nat) (rg : Nat → Nat) (rs : Nat → Nat) (rw : Nat → Nat) (S : zS) (sh : Int64) (we : Int64) (ca : Int64) (hg : Nat → Int64) (inn : Nat → Int32) (ky : Nat → Int64) (gv : Nat → Int64) (am : Nat → Int64) (od : Nat → Int32) (SP : zS) (n : Nat) (lm : Nat) (hn : n < 2 ^ 31) (hlm : lm < 2 ^ 31) (hl : zi SP 2 = nI lm) : Ct l yX1_shownCount cX1_shownCount 1 (some .int) ({ frames := 1, cells := 0, slots := 0, locals := 30 } : Room) E (kpw E r (rp 0) (rg 0) (rs 0) (rw 0) (mkp S (nI n) sh we ca hg inn ky gv am od) ++ plw E rp SP) [.ref (r 0)] (fun v_ w_ => v_ = some (.int (nI (shwN lm n))) ∧ w_ = kpw E r (rp 0) (rg 0) (rs 0) (rw 0) (mkp S (nI n) sh we ca hg inn ky gv am od) ++ plw E rp SP) := by
  refine Ct.of (by decide) (Nat.le_of_ble_eq_true rfl) (lv := [(0, .ref (r 0))]) rfl ?_
  intro X F hR
  have F : zF X l ({ frames := 1, cells := 0, slots := 0, locals := 30 } : Room) E cX1_shownCount 1 "LiveQueries$Kept" := F
  refine z_aload_n (pc := 0) F dX1_shownCount_0 rfl 0 rfl ?_
  refine z_get (pc := 1) (v := .ref (rp 0)) F iX1 0 rfl rfl 0 (by decide) tw_261 rfl dX1_shownCount_1 ?_
  refine z_getN (pc := 4) (v := .int (zi SP 2)) F iX2 7 rfl rfl 5 (by decide) nw_204 rfl dX1_shownCount_4 ?_
  rw [show (zi SP 2) = nI lm from hl]
  refine z_if_ne (pc := 7) (tgt := 17) F dX1_shownCount_7 (by decide) (fun c7 => ?_) (fun c7 => ?_)
  · have k7 : ¬ lm = 0 := fun h => c7 (by rw [h]; rfl)
    refine z_aload_n (pc := 17) F dX1_shownCount_17 rfl 0 rfl ?_
    refine z_get (pc := 18) (v := .ref (rp 0)) F iX1 0 rfl rfl 0 (by decide) tw_261 rfl dX1_shownCount_18 ?_
    refine z_getN (pc := 21) (v := .int (zi SP 2)) F iX2 7 rfl rfl 5 (by decide) nw_204 rfl dX1_shownCount_21 ?_
    rw [show (zi SP 2) = nI lm from hl]
    refine z_aload_n (pc := 24) F dX1_shownCount_24 rfl 0 rfl ?_
    refine z_get (pc := 25) (v := .int (nI n)) F iX1 0 rfl rfl 10 (by decide) tw_273 rfl dX1_shownCount_25 ?_
    refine z_callS0 (pc := 28) (rest := []) F (c_J9_min_7cf53 l E lm n hlm hn) 2 ww_Kept_91 (by decide +kernel) rfl ⟨Nat.le_of_ble_eq_true rfl, Nat.le_of_ble_eq_true rfl⟩ ⟨Nat.le_of_ble_eq_true rfl, Nat.le_of_ble_eq_true rfl⟩ rfl (Nat.le_of_ble_eq_true rfl) dX1_shownCount_28 (fun v_ w1_ hp => ?_)
    obtain ⟨rfl, rfl⟩ := hp
    show Z X (0) (0) (kpw E r (rp 0) (rg 0) (rs 0) (rw 0) (mkp S (nI n) sh we ca hg inn ky gv am od) ++ plw E rp SP) [(0, .ref (r 0))] 31 [.int (nI (if n < lm then n else lm))]
    exact z_iret (pc := 31) F hR dX1_shownCount_31 (Nat.le_of_ble_eq_true rfl) (Nat.le_of_ble_eq_true rfl) ⟨by rw [shwN, if_neg k7], rfl⟩
  · have k7 : lm = 0 := nIe (b := 0) hlm (by decide) c7
    refine z_aload_n (pc := 10) F dX1_shownCount_10 rfl 0 rfl ?_
    refine z_get (pc := 11) (v := .int (nI n)) F iX1 0 rfl rfl 10 (by decide) tw_273 rfl dX1_shownCount_11 ?_
    refine z_goto (pc := 14) (tgt := 31) F dX1_shownCount_14 (by decide) ?_
    exact z_iret (pc := 31) F hR dX1_shownCount_31 (Nat.le_of_ble_eq_true rfl) (Nat.le_of_ble_eq_true rfl) ⟨by rw [shwN, if_pos k7], rfl⟩
set_option maxHeartbeats 4000000 in
set_option maxRecDepth 100000 in
theorem c_X1_objectAt_y (l : Launch) (E : zE) (r : Nat → Nat) (rp : Nat → Nat) (rg : Nat → Nat) (rs : Nat → Nat) (rw : Nat → Nat) (S : zS) (sh : Int64) (we : Int64) (ca : Int64) (hg : Nat → Int64) (inn : Nat → Int32) (ky : Nat → Int64) (gv : Nat → Int64) (am : Nat → Int64) (od : Nat → Int32) (ord : List Nat) (k : Nat) (x : Nat) (ho : hoO ord od) (hl : ord.length ≤ 60) (hx : ord[k]? = some x) : Ct l yX1_objectAt cX1_objectAt 2 (some .int) ({ frames := 0, cells := 0, slots := 0, locals := 0 } : Room) E (kpw E r (rp 0) (rg 0) (rs 0) (rw 0) (mkp S (nI ord.length) sh we ca hg inn ky gv am od)) [.ref (r 0), .int (nI k)] (fun v_ w_ => v_ = some (.int (nI x)) ∧ w_ = kpw E r (rp 0) (rg 0) (rs 0) (rw 0) (mkp S (nI ord.length) sh we ca hg inn ky gv am od)) := by
  refine Ct.of (by decide) (Nat.le_of_ble_eq_true rfl) (lv := [(0, .ref (r 0)), (1, .int (nI k))]) rfl ?_
  intro X F hR
  have F : zF X l ({ frames := 0, cells := 0, slots := 0, locals := 0 } : Room) E cX1_objectAt 2 "LiveQueries$Kept" := F
  have hkl := (List.getElem?_eq_some_iff.mp hx).1
  refine z_iload_n (pc := 0) F dX1_objectAt_0 rfl 1 rfl ?_
  refine z_if_lt (pc := 1) (tgt := 21) F dX1_objectAt_1 (by decide) (fun c1 => absurd c1 (nI_pos (by omega))) (fun c1 => ?_)
  refine z_iload_n (pc := 4) F dX1_objectAt_4 rfl 1 rfl ?_
  refine z_aload_n (pc := 5) F dX1_objectAt_5 rfl 0 rfl ?_
  refine z_get (pc := 6) (v := .int (nI ord.length)) F iX1 0 rfl rfl 10 (by decide) tw_273 rfl dX1_objectAt_6 ?_
  refine z_icmp_ge (pc := 9) (tgt := 21) F dX1_objectAt_9 (by decide) (fun c9 => absurd c9 (fun h => absurd (gI (by omega) (by omega) h) (by omega))) (fun c9 => ?_)
  refine z_aload_n (pc := 12) F dX1_objectAt_12 rfl 0 rfl ?_
  refine z_get (pc := 13) (v := .ref (r 6)) F iX1 0 rfl rfl 9 (by decide) tw_272 rfl dX1_objectAt_13 ?_
  refine z_iload_n (pc := 16) F dX1_objectAt_16 rfl 1 rfl ?_
  refine z_ialdN (pc := 17) (f := od) F 6 0 rfl rfl k rfl (by omega) (by decide) dX1_objectAt_17 ?_
  rw [show ((od) k) = nI x from (ho k x hx)]
  refine z_goto (pc := 18) (tgt := 22) F dX1_objectAt_18 (by decide) ?_
  exact z_iret (pc := 22) F hR dX1_objectAt_22 (Nat.le_of_ble_eq_true rfl) (Nat.le_of_ble_eq_true rfl) ⟨rfl, rfl⟩
set_option maxHeartbeats 4000000 in
set_option maxRecDepth 100000 in
theorem c_X1_objectAt_n (l : Launch) (E : zE) (r : Nat → Nat) (rp : Nat → Nat) (rg : Nat → Nat) (rs : Nat → Nat) (rw : Nat → Nat) (S : zS) (sh : Int64) (we : Int64) (ca : Int64) (hg : Nat → Int64) (inn : Nat → Int32) (ky : Nat → Int64) (gv : Nat → Int64) (am : Nat → Int64) (od : Nat → Int32) (ord : List Nat) (k : Int32) (ho : hoO ord od) (hl : ord.length ≤ 60) (hno : ¬ ∃ j : Nat, j < ord.length ∧ k = nI j) : Ct l yX1_objectAt cX1_objectAt 2 (some .int) ({ frames := 0, cells := 0, slots := 0, locals := 0 } : Room) E (kpw E r (rp 0) (rg 0) (rs 0) (rw 0) (mkp S (nI ord.length) sh we ca hg inn ky gv am od)) [.ref (r 0), .int k] (fun v_ w_ => v_ = some (.int (-1)) ∧ w_ = kpw E r (rp 0) (rg 0) (rs 0) (rw 0) (mkp S (nI ord.length) sh we ca hg inn ky gv am od)) := by
  refine Ct.of (by decide) (Nat.le_of_ble_eq_true rfl) (lv := [(0, .ref (r 0)), (1, .int k)]) rfl ?_
  intro X F hR
  have F : zF X l ({ frames := 0, cells := 0, slots := 0, locals := 0 } : Room) E cX1_objectAt 2 "LiveQueries$Kept" := F
  refine z_iload_n (pc := 0) F dX1_objectAt_0 rfl 1 rfl ?_
  refine z_if_lt (pc := 1) (tgt := 21) F dX1_objectAt_1 (by decide) (fun c1 => ?_) (fun c1 => ?_)
  · refine z_iconst (pc := 21) (v := (-1)) F dX1_objectAt_21 (by decide) ?_
    exact z_iret (pc := 22) F hR dX1_objectAt_22 (Nat.le_of_ble_eq_true rfl) (Nat.le_of_ble_eq_true rfl) ⟨rfl, rfl⟩
  · refine z_iload_n (pc := 4) F dX1_objectAt_4 rfl 1 rfl ?_
    refine z_aload_n (pc := 5) F dX1_objectAt_5 rfl 0 rfl ?_
    refine z_get (pc := 6) (v := .int (nI ord.length)) F iX1 0 rfl rfl 10 (by decide) tw_273 rfl dX1_objectAt_6 ?_
    refine z_icmp_ge (pc := 9) (tgt := 21) F dX1_objectAt_9 (by decide) (fun c9 => ?_) (fun c9 => ?_)
    · refine z_iconst (pc := 21) (v := (-1)) F dX1_objectAt_21 (by decide) ?_
      exact z_iret (pc := 22) F hR dX1_objectAt_22 (Nat.le_of_ble_eq_true rfl) (Nat.le_of_ble_eq_true rfl) ⟨rfl, rfl⟩
    · exact absurd (by obtain ⟨j, hj, rfl, -⟩ := pk_mu c1 c9 (by omega); exact ⟨j, hj, rfl⟩) hno
set_option maxHeartbeats 4000000 in
set_option maxRecDepth 100000 in
theorem c_X1_keyOf (l : Launch) (E : zE) (r : Nat → Nat) (rp : Nat → Nat) (rg : Nat → Nat) (rs : Nat → Nat) (rw : Nat → Nat) (S : zS) (oc : Int32) (sh : Int64) (we : Int64) (ca : Int64) (hg : Nat → Int64) (inn : Nat → Int32) (ky : Nat → Int64) (gv : Nat → Int64) (am : Nat → Int64) (od : Nat → Int32) (o : Nat) (ho : o < 60) : Ct l yX1_keyOf cX1_keyOf 2 (some .long) ({ frames := 0, cells := 0, slots := 0, locals := 0 } : Room) E (kpw E r (rp 0) (rg 0) (rs 0) (rw 0) (mkp S oc sh we ca hg inn ky gv am od)) [.ref (r 0), .int (nI o)] (fun v_ w_ => v_ = some (.long (ky o)) ∧ w_ = kpw E r (rp 0) (rg 0) (rs 0) (rw 0) (mkp S oc sh we ca hg inn ky gv am od)) := by
  refine Ct.of (by decide) (Nat.le_of_ble_eq_true rfl) (lv := [(0, .ref (r 0)), (1, .int (nI o))]) rfl ?_
  intro X F hR
  have F : zF X l ({ frames := 0, cells := 0, slots := 0, locals := 0 } : Room) E cX1_keyOf 2 "LiveQueries$Kept" := F
  refine z_iload_n (pc := 0) F dX1_keyOf_0 rfl 1 rfl ?_
  refine z_if_lt (pc := 1) (tgt := 19) F dX1_keyOf_1 (by decide) (fun c1 => absurd c1 (nI_pos (by omega))) (fun c1 => ?_)
  refine z_iload_n (pc := 4) F dX1_keyOf_4 rfl 1 rfl ?_
  refine z_bipush (pc := 5) (v := 60) F dX1_keyOf_5 (by decide) ?_
  refine z_icmp_ge (pc := 7) (tgt := 19) F dX1_keyOf_7 (by decide) (fun c7 => absurd c7 (fun h => absurd (gI (a := 60) (by decide) (by omega) h) (by omega))) (fun c7 => ?_)
  refine z_aload_n (pc := 10) F dX1_keyOf_10 rfl 0 rfl ?_
  refine z_get (pc := 11) (v := .ref (r 3)) F iX1 0 rfl rfl 6 (by decide) tw_269 rfl dX1_keyOf_11 ?_
  refine z_iload_n (pc := 14) F dX1_keyOf_14 rfl 1 rfl ?_
  refine z_laldN (pc := 15) (f := ky) F 3 1 rfl rfl o rfl (by omega) (by decide) dX1_keyOf_15 ?_
  refine z_goto (pc := 16) (tgt := 20) F dX1_keyOf_16 (by decide) ?_
  exact z_lret (pc := 20) F hR dX1_keyOf_20 (Nat.le_of_ble_eq_true rfl) (Nat.le_of_ble_eq_true rfl) ⟨rfl, rfl⟩
set_option maxHeartbeats 4000000 in
set_option maxRecDepth 100000 in
theorem c_X1_hangsOn (l : Launch) (E : zE) (r : Nat → Nat) (rp : Nat → Nat) (rg : Nat → Nat) (rs : Nat → Nat) (rw : Nat → Nat) (S : zS) (oc : Int32) (sh : Int64) (we : Int64) (ca : Int64) (hg : Nat → Int64) (inn : Nat → Int32) (ky : Nat → Int64) (gv : Nat → Int64) (am : Nat → Int64) (od : Nat → Int32) (o : Nat) (u : Nat) (ho : o < 60) : Ct l yX1_hangsOn cX1_hangsOn 3 (some .boolean) ({ frames := 0, cells := 0, slots := 0, locals := 0 } : Room) E (kpw E r (rp 0) (rg 0) (rs 0) (rw 0) (mkp S oc sh we ca hg inn ky gv am od)) [.ref (r 0), .int (nI o), .int (nI u)] (fun v_ w_ => v_ = some (.int (bI (bitL (hg o) u))) ∧ w_ = kpw E r (rp 0) (rg 0) (rs 0) (rw 0) (mkp S oc sh we ca hg inn ky gv am od)) := by
  refine Ct.of (by decide) (Nat.le_of_ble_eq_true rfl) (lv := [(0, .ref (r 0)), (1, .int (nI o)), (2, .int (nI u))]) rfl ?_
  intro X F hR
  have F : zF X l ({ frames := 0, cells := 0, slots := 0, locals := 0 } : Room) E cX1_hangsOn 3 "LiveQueries$Kept" := F
  refine z_aload_n (pc := 0) F dX1_hangsOn_0 rfl 0 rfl ?_
  refine z_get (pc := 1) (v := .ref (r 1)) F iX1 0 rfl rfl 4 (by decide) tw_267 rfl dX1_hangsOn_1 ?_
  refine z_iload_n (pc := 4) F dX1_hangsOn_4 rfl 1 rfl ?_
  refine z_laldN (pc := 5) (f := hg) F 1 1 rfl rfl o rfl (by omega) (by decide) dX1_hangsOn_5 ?_
  refine z_iload_n (pc := 6) F dX1_hangsOn_6 rfl 2 rfl ?_
  refine z_lushr (pc := 7) F dX1_hangsOn_7 ?_
  refine z_lconst (pc := 8) (v := 1) F dX1_hangsOn_8 (by decide) ?_
  refine z_land (pc := 9) F dX1_hangsOn_9 ?_
  refine z_lconst (pc := 10) (v := 0) F dX1_hangsOn_10 (by decide) ?_
  refine z_l_eq (pc := 11) (tgt := 19) F dX1_hangsOn_11 dX1_hangsOn_12 (by decide) (fun c11 => ?_) (fun c11 => ?_)
  · refine z_iconst (pc := 19) (v := 0) F dX1_hangsOn_19 (by decide) ?_
    exact z_zret (pc := 20) F hR rfl dX1_hangsOn_20 (Nat.le_of_ble_eq_true rfl) (Nat.le_of_ble_eq_true rfl) ⟨by rw [show bitL (hg o) u = false from decide_eq_false (fun h => h c11)]; rfl, rfl⟩
  · refine z_iconst (pc := 15) (v := 1) F dX1_hangsOn_15 (by decide) ?_
    refine z_goto (pc := 16) (tgt := 20) F dX1_hangsOn_16 (by decide) ?_
    exact z_zret (pc := 20) F hR rfl dX1_hangsOn_20 (Nat.le_of_ble_eq_true rfl) (Nat.le_of_ble_eq_true rfl) ⟨by rw [show bitL (hg o) u = true from decide_eq_true c11]; rfl, rfl⟩
set_option maxHeartbeats 4000000 in
set_option maxRecDepth 100000 in
theorem c_X1_isBefore (l : Launch) (E : zE) (r : Nat → Nat) (rp : Nat → Nat) (rg : Nat → Nat) (rs : Nat → Nat) (rw : Nat → Nat) (S : zS) (oc : Int32) (sh : Int64) (we : Int64) (ca : Int64) (hg : Nat → Int64) (inn : Nat → Int32) (ky : Nat → Int64) (gv : Nat → Int64) (am : Nat → Int64) (od : Nat → Int32) (a : Nat) (b : Nat) (ha : a < 60) (hb : b < 60) : Ct l yX1_isBefore cX1_isBefore 3 (some .boolean) ({ frames := 0, cells := 0, slots := 0, locals := 0 } : Room) E (kpw E r (rp 0) (rg 0) (rs 0) (rw 0) (mkp S oc sh we ca hg inn ky gv am od)) [.ref (r 0), .int (nI a), .int (nI b)] (fun v_ w_ => v_ = some (.int (bI (bfB ky a b))) ∧ w_ = kpw E r (rp 0) (rg 0) (rs 0) (rw 0) (mkp S oc sh we ca hg inn ky gv am od)) := by
  refine Ct.of (by decide) (Nat.le_of_ble_eq_true rfl) (lv := [(0, .ref (r 0)), (1, .int (nI a)), (2, .int (nI b))]) rfl ?_
  intro X F hR
  have F : zF X l ({ frames := 0, cells := 0, slots := 0, locals := 0 } : Room) E cX1_isBefore 3 "LiveQueries$Kept" := F
  refine z_aload_n (pc := 0) F dX1_isBefore_0 rfl 0 rfl ?_
  refine z_get (pc := 1) (v := .ref (r 3)) F iX1 0 rfl rfl 6 (by decide) tw_269 rfl dX1_isBefore_1 ?_
  refine z_iload_n (pc := 4) F dX1_isBefore_4 rfl 1 rfl ?_
  refine z_laldN (pc := 5) (f := ky) F 3 1 rfl rfl a rfl (by omega) (by decide) dX1_isBefore_5 ?_
  refine z_aload_n (pc := 6) F dX1_isBefore_6 rfl 0 rfl ?_
  refine z_get (pc := 7) (v := .ref (r 3)) F iX1 0 rfl rfl 6 (by decide) tw_269 rfl dX1_isBefore_7 ?_
  refine z_iload_n (pc := 10) F dX1_isBefore_10 rfl 2 rfl ?_
  refine z_laldN (pc := 11) (f := ky) F 3 1 rfl rfl b rfl (by omega) (by decide) dX1_isBefore_11 ?_
  refine z_l_eq (pc := 12) (tgt := 40) F dX1_isBefore_12 dX1_isBefore_13 (by decide) (fun c12 => ?_) (fun c12 => ?_)
  · refine z_iload_n (pc := 40) F dX1_isBefore_40 rfl 1 rfl ?_
    refine z_iload_n (pc := 41) F dX1_isBefore_41 rfl 2 rfl ?_
    refine z_icmp_ge (pc := 42) (tgt := 49) F dX1_isBefore_42 (by decide) (fun c42 => ?_) (fun c42 => ?_)
    · have k42 := gI (by omega) (by omega) c42
      refine z_iconst (pc := 49) (v := 0) F dX1_isBefore_49 (by decide) ?_
      exact z_zret (pc := 50) F hR rfl dX1_isBefore_50 (Nat.le_of_ble_eq_true rfl) (Nat.le_of_ble_eq_true rfl) ⟨by rw [show bfB ky a b = false from by unfold bfB; first | (rw [if_pos c12]; exact decide_eq_false (by omega)) | (rw [if_neg c12]; exact decide_eq_false (l_ge c28))]; rfl, rfl⟩
    · have k42 := ngI (by omega) (by omega) c42
      refine z_iconst (pc := 45) (v := 1) F dX1_isBefore_45 (by decide) ?_
      refine z_goto (pc := 46) (tgt := 50) F dX1_isBefore_46 (by decide) ?_
      exact z_zret (pc := 50) F hR rfl dX1_isBefore_50 (Nat.le_of_ble_eq_true rfl) (Nat.le_of_ble_eq_true rfl) ⟨by rw [show bfB ky a b = true from by unfold bfB; first | (rw [if_pos c12]; exact decide_eq_true (by omega)) | (rw [if_neg c12]; exact decide_eq_true (l_nle.mp c28))]; rfl, rfl⟩
  · refine z_aload_n (pc := 16) F dX1_isBefore_16 rfl 0 rfl ?_
    refine z_get (pc := 17) (v := .ref (r 3)) F iX1 0 rfl rfl 6 (by decide) tw_269 rfl dX1_isBefore_17 ?_
    refine z_iload_n (pc := 20) F dX1_isBefore_20 rfl 1 rfl ?_
    refine z_laldN (pc := 21) (f := ky) F 3 1 rfl rfl a rfl (by omega) (by decide) dX1_isBefore_21 ?_
    refine z_aload_n (pc := 22) F dX1_isBefore_22 rfl 0 rfl ?_
    refine z_get (pc := 23) (v := .ref (r 3)) F iX1 0 rfl rfl 6 (by decide) tw_269 rfl dX1_isBefore_23 ?_
    refine z_iload_n (pc := 26) F dX1_isBefore_26 rfl 2 rfl ?_
    refine z_laldN (pc := 27) (f := ky) F 3 1 rfl rfl b rfl (by omega) (by decide) dX1_isBefore_27 ?_
    refine z_l_ge (pc := 28) (tgt := 36) F dX1_isBefore_28 dX1_isBefore_29 (by decide) (fun c28 => ?_) (fun c28 => ?_)
    · refine z_iconst (pc := 36) (v := 0) F dX1_isBefore_36 (by decide) ?_
      refine z_goto (pc := 37) (tgt := 50) F dX1_isBefore_37 (by decide) ?_
      exact z_zret (pc := 50) F hR rfl dX1_isBefore_50 (Nat.le_of_ble_eq_true rfl) (Nat.le_of_ble_eq_true rfl) ⟨by rw [show bfB ky a b = false from by unfold bfB; first | (rw [if_pos c12]; exact decide_eq_false (by omega)) | (rw [if_neg c12]; exact decide_eq_false (l_ge c28))]; rfl, rfl⟩
    · refine z_iconst (pc := 32) (v := 1) F dX1_isBefore_32 (by decide) ?_
      refine z_goto (pc := 33) (tgt := 50) F dX1_isBefore_33 (by decide) ?_
      exact z_zret (pc := 50) F hR rfl dX1_isBefore_50 (Nat.le_of_ble_eq_true rfl) (Nat.le_of_ble_eq_true rfl) ⟨by rw [show bfB ky a b = true from by unfold bfB; first | (rw [if_pos c12]; exact decide_eq_true (by omega)) | (rw [if_neg c12]; exact decide_eq_true (l_nle.mp c28))]; rfl, rfl⟩
set_option maxHeartbeats 4000000 in
set_option maxRecDepth 100000 in
theorem c_X1_rowsHangingOn (l : Launch) (E : zE) (r : Nat → Nat) (rp : Nat → Nat) (rg : Nat → Nat) (rs : Nat → Nat) (rw : Nat → Nat) (S : zS) (oc : Int32) (sh : Int64) (we : Int64) (ca : Int64) (hg : Nat → Int64) (inn : Nat → Int32) (ky : Nat → Int64) (gv : Nat → Int64) (am : Nat → Int64) (od : Nat → Int32) (SS : zS) (m : Nat) (u : Nat) (hm : m ≤ 60) (hmo : zi SS 0 = nI m) : Ct l yX1_rowsHangingOn cX1_rowsHangingOn 4 (some .int) ({ frames := 1, cells := 0, slots := 0, locals := 30 } : Room) E (kpw E r (rp 0) (rg 0) (rs 0) (rw 0) (mkp S oc sh we ca hg inn ky gv am od) ++ sw E rs SS) [.ref (r 0), .int (nI u)] (fun v_ w_ => v_ = some (.int (nI (ctB (fun o => bitL (hg o) u) m))) ∧ w_ = kpw E r (rp 0) (rg 0) (rs 0) (rw 0) (mkp S oc sh we ca hg inn ky gv am od) ++ sw E rs SS) := by
  refine Ct.of (by decide) (Nat.le_of_ble_eq_true rfl) (lv := [(0, .ref (r 0)), (1, .int (nI u))]) rfl ?_
  intro X F hR
  have F : zF X l ({ frames := 1, cells := 0, slots := 0, locals := 30 } : Room) E cX1_rowsHangingOn 4 "LiveQueries$Kept" := F
  refine z_iconst (pc := 0) (v := 0) F dX1_rowsHangingOn_0 (by decide) ?_
  refine z_istore_n (pc := 1) (lv' := [(0, .ref (r 0)), (1, .int (nI u)), (2, .int 0)]) F dX1_rowsHangingOn_1 rfl (by decide) [1, 2, 0] rfl ?_
  refine z_iconst (pc := 2) (v := 0) F dX1_rowsHangingOn_2 (by decide) ?_
  refine z_istore_n (pc := 3) (lv' := [(0, .ref (r 0)), (1, .int (nI u)), (2, .int 0), (3, .int 0)]) F dX1_rowsHangingOn_3 rfl (by decide) [1, 2, 3, 0] rfl ?_
  have L4 : ∀ (N : Nat) (i : Nat), (m - i) < N → (i ≤ m) → Z X (0) (0) (kpw E r (rp 0) (rg 0) (rs 0) (rw 0) (mkp S oc sh we ca hg inn ky gv am od) ++ sw E rs SS) [(0, .ref (r 0)), (1, .int (nI u)), (2, .int (nI (ctB (fun o => bitL (hg o) u) i))), (3, .int (nI i))] 4 [] := by
    intro N
    induction N with
    | zero => intro i hN; exact absurd hN (Nat.not_lt_zero _)
    | succ N ih4 =>
      intro i hN hi
      refine z_iload_n (pc := 4) F dX1_rowsHangingOn_4 rfl 3 rfl ?_
      refine z_aload_n (pc := 5) F dX1_rowsHangingOn_5 rfl 0 rfl ?_
      refine z_get (pc := 6) (v := .ref (rs 0)) F iX1 0 rfl rfl 2 (by decide) tw_265 rfl dX1_rowsHangingOn_6 ?_
      refine z_callV (pc := 9) (q0 := 7) (ci := 4) (wr := kpw E r (rp 0) (rg 0) (rs 0) (rw 0) (mkp S oc sh we ca hg inn ky gv am od)) (rest := [.int (nI i)]) F (c_X4_madeCount l E rs SS) 0 [7, 8, 9, 10, 11, 12, 13] [0, 1, 2, 3, 4, 5, 6] rfl rfl ⟨by decide, by decide, by decide⟩ ww_Kept_68 (by decide +kernel) rfl ⟨Nat.le_of_ble_eq_true rfl, Nat.le_of_ble_eq_true rfl⟩ ⟨Nat.le_of_ble_eq_true rfl, Nat.le_of_ble_eq_true rfl⟩ rfl rfl rfl rfl (Nat.le_of_ble_eq_true rfl) dX1_rowsHangingOn_9 (fun v_ w1_ hp => ?_)
      obtain ⟨rfl, rfl⟩ := hp
      show Z X (0) (0) (kpw E r (rp 0) (rg 0) (rs 0) (rw 0) (mkp S oc sh we ca hg inn ky gv am od) ++ sw E rs SS) [(0, .ref (r 0)), (1, .int (nI u)), (2, .int (nI (ctB (fun o => bitL (hg o) u) i))), (3, .int (nI i))] 12 [.int (zi SS 0), .int (nI i)]
      rw [show (zi SS 0) = nI m from hmo]
      refine z_icmp_ge (pc := 12) (tgt := 33) F dX1_rowsHangingOn_12 (by decide) (fun c12 => ?_) (fun c12 => ?_)
      · have hie : i = m := Nat.le_antisymm hi (gI (by omega) (by omega) c12)
        subst hie
        refine z_iload_n (pc := 33) F dX1_rowsHangingOn_33 rfl 2 rfl ?_
        exact z_iret (pc := 34) F hR dX1_rowsHangingOn_34 (Nat.le_of_ble_eq_true rfl) (Nat.le_of_ble_eq_true rfl) ⟨rfl, rfl⟩
      · have hil := ngI (by omega) (by omega) c12
        refine z_aload_n (pc := 15) F dX1_rowsHangingOn_15 rfl 0 rfl ?_
        refine z_iload_n (pc := 16) F dX1_rowsHangingOn_16 rfl 3 rfl ?_
        refine z_iload_n (pc := 17) F dX1_rowsHangingOn_17 rfl 1 rfl ?_
        refine z_callV (pc := 18) (q0 := 0) (ci := 1) (wr := sw E rs SS) (rest := []) F (c_X1_hangsOn l E r _ _ _ _ S oc sh we ca hg inn ky gv am od i u (by omega)) 2 [0, 1, 2, 3, 4, 5, 6] [7, 8, 9, 10, 11, 12, 13] rfl rfl ⟨by decide, by decide, by decide⟩ ww_Kept_82 (by decide +kernel) rfl ⟨Nat.le_of_ble_eq_true rfl, Nat.le_of_ble_eq_true rfl⟩ ⟨Nat.le_of_ble_eq_true rfl, Nat.le_of_ble_eq_true rfl⟩ rfl rfl rfl rfl (Nat.le_of_ble_eq_true rfl) dX1_rowsHangingOn_18 (fun v_ w1_ hp => ?_)
        obtain ⟨rfl, rfl⟩ := hp
        show Z X (0) (0) (sw E rs SS ++ kpw E r (rp 0) (rg 0) (rs 0) (rw 0) (mkp S oc sh we ca hg inn ky gv am od)) [(0, .ref (r 0)), (1, .int (nI u)), (2, .int (nI (ctB (fun o => bitL (hg o) u) i))), (3, .int (nI i))] 21 [.int (bI (bitL (hg i) u))]
        refine z_if_eq (pc := 21) (tgt := 27) F dX1_rowsHangingOn_21 (by decide) (fun c21 => ?_) (fun c21 => ?_)
        · replace c21 := bI_f c21
          refine z_iinc (pc := 27) (v := nI (i + 1)) (lv' := [(0, .ref (r 0)), (1, .int (nI u)), (2, .int (nI (ctB (fun o => bitL (hg o) u) i))), (3, .int (nI (i + 1)))]) F (j := 3) dX1_rowsHangingOn_27 rfl (nI_1 _) (by decide) [1, 2, 3, 0] rfl ?_
          refine z_goto (pc := 30) (tgt := 4) F dX1_rowsHangingOn_30 (by decide) ?_
          refine z_world (ws' := kpw E r (rp 0) (rg 0) (rs 0) (rw 0) (mkp S oc sh we ca hg inn ky gv am od) ++ sw E rs SS) [7, 8, 9, 10, 11, 12, 13, 0, 1, 2, 3, 4, 5, 6] (by decide) rfl ?_
          have hih := ih4 (i + 1) (by omega) (by omega); rw [show ctB (fun o => bitL (hg o) u) (i + 1) = ctB (fun o => bitL (hg o) u) i from by simp [ctB, c21]] at hih; exact hih
        · replace c21 := bI_t c21
          refine z_iinc (pc := 24) (v := nI (ctB (fun o => bitL (hg o) u) i + 1)) (lv' := [(0, .ref (r 0)), (1, .int (nI u)), (2, .int (nI (ctB (fun o => bitL (hg o) u) i + 1))), (3, .int (nI i))]) F (j := 2) dX1_rowsHangingOn_24 rfl (nI_1 _) (by decide) [1, 2, 0, 3] rfl ?_
          refine z_iinc (pc := 27) (v := nI (i + 1)) (lv' := [(0, .ref (r 0)), (1, .int (nI u)), (2, .int (nI (ctB (fun o => bitL (hg o) u) i + 1))), (3, .int (nI (i + 1)))]) F (j := 3) dX1_rowsHangingOn_27 rfl (nI_1 _) (by decide) [1, 2, 3, 0] rfl ?_
          refine z_goto (pc := 30) (tgt := 4) F dX1_rowsHangingOn_30 (by decide) ?_
          refine z_world (ws' := kpw E r (rp 0) (rg 0) (rs 0) (rw 0) (mkp S oc sh we ca hg inn ky gv am od) ++ sw E rs SS) [7, 8, 9, 10, 11, 12, 13, 0, 1, 2, 3, 4, 5, 6] (by decide) rfl ?_
          have hih := ih4 (i + 1) (by omega) (by omega); rw [show ctB (fun o => bitL (hg o) u) (i + 1) = ctB (fun o => bitL (hg o) u) i + 1 from by simp [ctB, c21]] at hih; exact hih
  exact L4 _ 0 (Nat.lt_succ_self _) (Nat.zero_le _)
set_option maxHeartbeats 4000000 in
set_option maxRecDepth 100000 in
theorem c_X1_showFirst (l : Launch) (E : zE) (r : Nat → Nat) (rp : Nat → Nat) (rg : Nat → Nat) (rs : Nat → Nat) (rw : Nat → Nat) (S : zS) (sh : Int64) (we : Int64) (ca : Int64) (hg : Nat → Int64) (inn : Nat → Int32) (ky : Nat → Int64) (gv : Nat → Int64) (am : Nat → Int64) (od : Nat → Int32) (SP : zS) (ord : List Nat) (lm : Nat) (ho : hoO ord od) (hl : ord.length ≤ 60) (hlm : lm < 2 ^ 31) (hp : zi SP 2 = nI lm) : Ct l yX1_showFirst cX1_showFirst 4 (some .long) ({ frames := 2, cells := 0, slots := 0, locals := 60 } : Room) E (kpw E r (rp 0) (rg 0) (rs 0) (rw 0) (mkp S (nI ord.length) sh we ca hg inn ky gv am od) ++ plw E rp SP) [.ref (r 0)] (fun v_ w_ => v_ = some (.long (mskL (ord.take (shwN lm ord.length)))) ∧ w_ = kpw E r (rp 0) (rg 0) (rs 0) (rw 0) (mkp S (nI ord.length) sh we ca hg inn ky gv am od) ++ plw E rp SP) := by
  refine Ct.of (by decide) (Nat.le_of_ble_eq_true rfl) (lv := [(0, .ref (r 0))]) rfl ?_
  intro X F hR
  have F : zF X l ({ frames := 2, cells := 0, slots := 0, locals := 60 } : Room) E cX1_showFirst 4 "LiveQueries$Kept" := F
  have hsn : shwN lm ord.length ≤ ord.length := by unfold shwN; split <;> (try split) <;> omega
  refine z_lconst (pc := 0) (v := 0) F dX1_showFirst_0 (by decide) ?_
  refine z_lstore_n (pc := 1) (lv' := [(0, .ref (r 0)), (1, .long 0)]) F dX1_showFirst_1 rfl (by decide) [1, 0] rfl ?_
  refine z_iconst (pc := 2) (v := 0) F dX1_showFirst_2 (by decide) ?_
  refine z_istore_n (pc := 3) (lv' := [(0, .ref (r 0)), (1, .long 0), (3, .int 0)]) F dX1_showFirst_3 rfl (by decide) [1, 2, 0] rfl ?_
  have L4 : ∀ (N : Nat) (i : Nat), (shwN lm ord.length - i) < N → (i ≤ shwN lm ord.length) → Z X (0) (0) (kpw E r (rp 0) (rg 0) (rs 0) (rw 0) (mkp S (nI ord.length) sh we ca hg inn ky gv am od) ++ plw E rp SP) [(0, .ref (r 0)), (1, .long (mskL (ord.take i))), (3, .int (nI i))] 4 [] := by
    intro N
    induction N with
    | zero => intro i hN; exact absurd hN (Nat.not_lt_zero _)
    | succ N ih4 =>
      intro i hN hi
      refine z_iload_n (pc := 4) F dX1_showFirst_4 rfl 2 rfl ?_
      refine z_aload_n (pc := 5) F dX1_showFirst_5 rfl 0 rfl ?_
      refine z_callVW (pc := 6) (q0 := 0) (ci := 1) (rest := [.int (nI i)]) F (c_X1_shownCount l E r rp _ _ _ S sh we ca hg inn ky gv am od SP (ord.length) lm (by omega) hlm hp) 0 ww_Kept_111 (by decide +kernel) rfl ⟨Nat.le_of_ble_eq_true rfl, Nat.le_of_ble_eq_true rfl⟩ ⟨Nat.le_of_ble_eq_true rfl, Nat.le_of_ble_eq_true rfl⟩ rfl rfl rfl rfl (Nat.le_of_ble_eq_true rfl) dX1_showFirst_6 (fun v_ w1_ hp => ?_)
      obtain ⟨rfl, rfl⟩ := hp
      show Z X (0) (0) (kpw E r (rp 0) (rg 0) (rs 0) (rw 0) (mkp S (nI (ord.length)) sh we ca hg inn ky gv am od) ++ plw E rp SP) [(0, .ref (r 0)), (1, .long (mskL (ord.take i))), (3, .int (nI i))] 9 [.int (nI (shwN lm (ord.length))), .int (nI i)]
      refine z_icmp_ge (pc := 9) (tgt := 29) F dX1_showFirst_9 (by decide) (fun c9 => ?_) (fun c9 => ?_)
      · have hie : i = shwN lm ord.length := Nat.le_antisymm hi (gI (by omega) (by omega) c9)
        rw [hie]
        refine z_lload_n (pc := 29) F dX1_showFirst_29 rfl 1 rfl ?_
        exact z_lret (pc := 30) F hR dX1_showFirst_30 (Nat.le_of_ble_eq_true rfl) (Nat.le_of_ble_eq_true rfl) ⟨rfl, rfl⟩
      · have hil := ngI (by omega) (by omega) c9
        obtain ⟨x, hx⟩ := at_of (ord := ord) (i := i) (by omega)
        refine z_lload_n (pc := 12) F dX1_showFirst_12 rfl 1 rfl ?_
        refine z_lconst (pc := 13) (v := 1) F dX1_showFirst_13 (by decide) ?_
        refine z_aload_n (pc := 14) F dX1_showFirst_14 rfl 0 rfl ?_
        refine z_get (pc := 15) (v := .ref (r 6)) F iX1 0 rfl rfl 9 (by decide) tw_272 rfl dX1_showFirst_15 ?_
        refine z_iload_n (pc := 18) F dX1_showFirst_18 rfl 2 rfl ?_
        refine z_ialdN (pc := 19) (f := od) F 6 0 rfl rfl i rfl (by omega) (by decide) dX1_showFirst_19 ?_
        rw [show ((od) i) = nI x from (ho i x hx)]
        refine z_lshl (pc := 20) F dX1_showFirst_20 ?_
        refine z_lor (pc := 21) F dX1_showFirst_21 ?_
        refine z_lstore_n (pc := 22) (lv' := [(0, .ref (r 0)), (1, .long ((mskL (ord.take i)) ||| (1 <<< ((nI x).toInt64 &&& 63)))), (3, .int (nI i))]) F dX1_showFirst_22 rfl (by decide) [1, 0, 2] rfl ?_
        refine z_iinc (pc := 23) (v := nI (i + 1)) (lv' := [(0, .ref (r 0)), (1, .long ((mskL (ord.take i)) ||| (1 <<< ((nI x).toInt64 &&& 63)))), (3, .int (nI (i + 1)))]) F (j := 2) dX1_showFirst_23 rfl (nI_1 _) (by decide) [1, 2, 0] rfl ?_
        refine z_goto (pc := 26) (tgt := 4) F dX1_showFirst_26 (by decide) ?_
        have hih := ih4 (i + 1) (by omega) (by omega); rw [mskL_s hx] at hih; exact hih
  exact L4 _ 0 (Nat.lt_succ_self _) (Nat.zero_le _)
set_option maxHeartbeats 4000000 in
set_option maxRecDepth 100000 in
theorem c_X1_bitAt (l : Launch) (E : zE) (b : Int64) (k : Nat) (hk : k < 2 ^ 31) : Ct l yX1_bitAt cX1_bitAt 5 (some .int) ({ frames := 0, cells := 0, slots := 0, locals := 0 } : Room) E ([]) [.long b, .int (nI k)] (fun v_ w_ => v_ = some (.int (oI (btA (bitL b) k 60 0))) ∧ w_ = []) := by
  refine Ct.of (by decide) (Nat.le_of_ble_eq_true rfl) (lv := [(0, .long b), (2, .int (nI k))]) rfl ?_
  intro X F hR
  have F : zF X l ({ frames := 0, cells := 0, slots := 0, locals := 0 } : Room) E cX1_bitAt 5 "LiveQueries$Kept" := F
  refine z_iload_n (pc := 0) F dX1_bitAt_0 rfl 1 rfl ?_
  refine z_istore_n (pc := 1) (lv' := [(0, .long b), (2, .int (nI k)), (3, .int (nI k))]) F dX1_bitAt_1 rfl (by decide) [1, 2, 0] rfl ?_
  refine z_iconst (pc := 2) (v := 0) F dX1_bitAt_2 (by decide) ?_
  refine z_istore (pc := 3) (lv' := [(0, .long b), (2, .int (nI k)), (3, .int (nI k)), (4, .int 0)]) F dX1_bitAt_3 (by decide) [1, 2, 3, 0] rfl ?_
  have L5 : ∀ (N : Nat) (i : Nat) (j : Nat), (60 - i) < N → (i ≤ 60) → (j < 2 ^ 31) → (btA (bitL b) j (60 - i) i = btA (bitL b) k 60 0) → Z X (0) (0) ([]) [(0, .long b), (2, .int (nI k)), (3, .int (nI j)), (4, .int (nI i))] 5 [] := by
    intro N
    induction N with
    | zero => intro i j hN; exact absurd hN (Nat.not_lt_zero _)
    | succ N ih5 =>
      intro i j hN hi hj hb
      refine z_iload (pc := 5) F dX1_bitAt_5 3 rfl ?_
      refine z_bipush (pc := 7) (v := 60) F dX1_bitAt_7 (by decide) ?_
      refine z_icmp_ge (pc := 9) (tgt := 39) F dX1_bitAt_9 (by decide) (fun c9 => ?_) (fun c9 => ?_)
      · have hi6 : i = 60 := Nat.le_antisymm hi (gI (a := 60) (by decide) (by omega) c9)
        subst hi6
        rw [Nat.sub_self, show btA (bitL b) j 0 60 = none from rfl] at hb
        refine z_iconst (pc := 39) (v := (-1)) F dX1_bitAt_39 (by decide) ?_
        exact z_iret (pc := 40) F hR dX1_bitAt_40 (Nat.le_of_ble_eq_true rfl) (Nat.le_of_ble_eq_true rfl) ⟨by rw [← hb]; rfl, rfl⟩
      · have hil := ngI (a := 60) (by decide) (by omega) c9
        rw [show 60 - i = (60 - (i + 1)) + 1 by omega] at hb
        refine z_lload_n (pc := 12) F dX1_bitAt_12 rfl 0 rfl ?_
        refine z_iload (pc := 13) F dX1_bitAt_13 3 rfl ?_
        refine z_lushr (pc := 15) F dX1_bitAt_15 ?_
        refine z_lconst (pc := 16) (v := 1) F dX1_bitAt_16 (by decide) ?_
        refine z_land (pc := 17) F dX1_bitAt_17 ?_
        refine z_lconst (pc := 18) (v := 0) F dX1_bitAt_18 (by decide) ?_
        refine z_l_eq (pc := 19) (tgt := 33) F dX1_bitAt_19 dX1_bitAt_20 (by decide) (fun c19 => ?_) (fun c19 => ?_)
        · have kb : bitL b i = false := decide_eq_false (fun h => h c19)
          rw [show btA (bitL b) j ((60 - (i + 1)) + 1) i = btA (bitL b) j (60 - (i + 1)) (i + 1) from by simp [btA, kb]] at hb
          refine z_iinc (pc := 33) (v := nI (i + 1)) (lv' := [(0, .long b), (2, .int (nI k)), (3, .int (nI j)), (4, .int (nI (i + 1)))]) F (j := 3) dX1_bitAt_33 rfl (nI_1 _) (by decide) [1, 2, 3, 0] rfl ?_
          refine z_goto (pc := 36) (tgt := 5) F dX1_bitAt_36 (by decide) ?_
          exact ih5 (i + 1) j (by omega) (by omega) (by omega) hb
        · have kb : bitL b i = true := decide_eq_true c19
          refine z_iload_n (pc := 23) F dX1_bitAt_23 rfl 2 rfl ?_
          refine z_if_ne (pc := 24) (tgt := 30) F dX1_bitAt_24 (by decide) (fun c24 => ?_) (fun c24 => ?_)
          · obtain ⟨j2, rfl⟩ : ∃ j2, j = j2 + 1 := ⟨j - 1, by have : ¬ j = 0 := fun h => c24 (by rw [h]; rfl); omega⟩
            rw [show btA (bitL b) (j2 + 1) ((60 - (i + 1)) + 1) i = btA (bitL b) j2 (60 - (i + 1)) (i + 1) from by simp [btA, kb]] at hb
            refine z_iinc (pc := 30) (v := nI j2) (lv' := [(0, .long b), (2, .int (nI k)), (3, .int (nI j2)), (4, .int (nI i))]) F (j := 2) dX1_bitAt_30 rfl (i_m1 j2) (by decide) [1, 2, 0, 3] rfl ?_
            refine z_iinc (pc := 33) (v := nI (i + 1)) (lv' := [(0, .long b), (2, .int (nI k)), (3, .int (nI j2)), (4, .int (nI (i + 1)))]) F (j := 3) dX1_bitAt_33 rfl (nI_1 _) (by decide) [1, 2, 3, 0] rfl ?_
            refine z_goto (pc := 36) (tgt := 5) F dX1_bitAt_36 (by decide) ?_
            exact ih5 (i + 1) j2 (by omega) (by omega) (by omega) hb
          · have hj0 : j = 0 := nIe (b := 0) hj (by decide) c24
            subst hj0
            rw [show btA (bitL b) 0 ((60 - (i + 1)) + 1) i = some i from by simp [btA, kb]] at hb
            refine z_iload (pc := 27) F dX1_bitAt_27 3 rfl ?_
            exact z_iret (pc := 29) F hR dX1_bitAt_29 (Nat.le_of_ble_eq_true rfl) (Nat.le_of_ble_eq_true rfl) ⟨by rw [← hb]; rfl, rfl⟩
  exact L5 _ 0 k (Nat.lt_succ_self _) (by decide) hk rfl

set_option maxHeartbeats 4000000 in
set_option maxRecDepth 100000 in
theorem c_X0_add (l : Launch) (E : zE) (r : Nat → Nat) (S : zS) (L : List zRow) (v : Int64) (s : Int64) (hL : L.length ≤ 60) (hroom : (addG v s L).length ≤ 60) (hg : zi S 0 = nI L.length) (hh : hoR L (za S 2) (zb S 1) (zb S 3) (zb S 4)) : Ct l yX0_add cX0_add 8 (none) ({ frames := 2, cells := 0, slots := 0, locals := 60 } : Room) E (grw E r S) [.ref (r 0), .long v, .long s] (fun v_ w_ => ∃ va : Nat → Int64, ∃ mn : Nat → Int32, ∃ lo : Nat → Int64, ∃ hi : Nat → Int64, v_ = none ∧ w_ = grw E r (mgv S (nI (addG v s L).length) va mn lo hi) ∧ (hoR (addG v s L) mn va lo hi)) := by
  refine Ct.of (by decide) (Nat.le_of_ble_eq_true rfl) (lv := [(0, .ref (r 0)), (1, .long v), (3, .long s)]) rfl ?_
  intro X F hR
  have F : zF X l ({ frames := 2, cells := 0, slots := 0, locals := 60 } : Room) E cX0_add 8 "LiveQueries$Groups" := F
  show Z X 0 0 (grw E r (mgv S (zi S 0) (zb S 1) (za S 2) (zb S 3) (zb S 4))) [(0, .ref (r 0)), (1, .long v), (3, .long s)] 0 []
  rw [hg]
  refine z_aload_n (pc := 0) F dX0_add_0 rfl 0 rfl ?_
  refine z_lload_n (pc := 1) F dX0_add_1 rfl 1 rfl ?_
  refine z_callVW (pc := 2) (q0 := 0) (ci := 0) (rest := []) F (c_X0_placeOf l E r (mgv S (nI L.length) (zb S 1) (za S 2) (zb S 3) (zb S 4)) L v hL rfl hh) 1 ww_Groups_33 (by decide +kernel) rfl ⟨Nat.le_of_ble_eq_true rfl, Nat.le_of_ble_eq_true rfl⟩ ⟨Nat.le_of_ble_eq_true rfl, Nat.le_of_ble_eq_true rfl⟩ rfl rfl rfl rfl (Nat.le_of_ble_eq_true rfl) dX0_add_2 (fun v_ w1_ hp => ?_)
  obtain ⟨k, rfl, rfl, h2_0⟩ := hp
  show Z X (0) (0) (grw E r (mgv S (nI L.length) (zb S 1) (za S 2) (zb S 3) (zb S 4))) [(0, .ref (r 0)), (1, .long v), (3, .long s)] 5 [.int (nI k)]
  obtain ⟨hk, hlt, hge⟩ := h2_0
  refine z_istore (pc := 5) (lv' := [(0, .ref (r 0)), (1, .long v), (3, .long s), (5, .int (nI k))]) F dX0_add_5 (by decide) [1, 2, 3, 0] rfl ?_
  refine z_aload_n (pc := 7) F dX0_add_7 rfl 0 rfl ?_
  refine z_iload (pc := 8) F dX0_add_8 3 rfl ?_
  refine z_callVW (pc := 10) (q0 := 0) (ci := 0) (rest := []) F (c_X0_has l E r (mgv S (nI L.length) (zb S 1) (za S 2) (zb S 3) (zb S 4)) L k hL rfl (by omega)) 1 ww_Groups_29 (by decide +kernel) rfl ⟨Nat.le_of_ble_eq_true rfl, Nat.le_of_ble_eq_true rfl⟩ ⟨Nat.le_of_ble_eq_true rfl, Nat.le_of_ble_eq_true rfl⟩ rfl rfl rfl rfl (Nat.le_of_ble_eq_true rfl) dX0_add_10 (fun v_ w1_ hp => ?_)
  obtain ⟨rfl, rfl⟩ := hp
  show Z X (0) (0) (grw E r (mgv S (nI L.length) (zb S 1) (za S 2) (zb S 3) (zb S 4))) [(0, .ref (r 0)), (1, .long v), (3, .long s), (5, .int (nI k))] 13 [.int (bI (decide (k < L.length)))]
  refine z_if_eq (pc := 13) (tgt := 28) F dX0_add_13 (by decide) (fun c13 => ?_) (fun c13 => ?_)
  · replace c13 := bI_f c13
    have hkl : k = L.length := by have := of_decide_eq_false c13; omega
    have e1 := addG_open v s L k hk hlt (fun y2 hy2 => absurd (List.getElem?_eq_some_iff.mp hy2).1 (by omega))
    have h60 : L.length < 60 := by rw [e1, ad_len hk] at hroom; omega
    have e2 : (addG v s L).length = L.length + 1 := by rw [e1, ad_len hk]
    refine z_aload_n (pc := 28) F dX0_add_28 rfl 0 rfl ?_
    refine z_get (pc := 29) (v := .int (nI L.length)) F iX0 0 rfl rfl 4 (by decide) tw_249 rfl dX0_add_29 ?_
    refine z_bipush (pc := 32) (v := 60) F dX0_add_32 (by decide) ?_
    refine z_icmp_lt (pc := 34) (tgt := 38) F dX0_add_34 (by decide) (fun c34 => ?_) (fun c34 => absurd (nI_lt (b := 60) h60 (by decide)) c34)
    refine z_aload_n (pc := 38) F dX0_add_38 rfl 0 rfl ?_
    refine z_iload (pc := 39) F dX0_add_39 3 rfl ?_
    refine z_lload_n (pc := 41) F dX0_add_41 rfl 1 rfl ?_
    refine z_callVW (pc := 42) (q0 := 0) (ci := 0) (rest := []) F (c_X0_open l E r (mgv S (nI L.length) (zb S 1) (za S 2) (zb S 3) (zb S 4)) L k v hk h60 rfl hh) 2 ww_Groups_37 (by decide +kernel) rfl ⟨Nat.le_of_ble_eq_true rfl, Nat.le_of_ble_eq_true rfl⟩ ⟨Nat.le_of_ble_eq_true rfl, Nat.le_of_ble_eq_true rfl⟩ rfl rfl rfl rfl (Nat.le_of_ble_eq_true rfl) dX0_add_42 (fun v_ w1_ hp => ?_)
    obtain ⟨va1, mn1, lo1, hi1, rfl, rfl, h42_0⟩ := hp
    show Z X (0) (0) (grw E r (mgv S (nI (L.length + 1)) va1 mn1 lo1 hi1)) [(0, .ref (r 0)), (1, .long v), (3, .long s), (5, .int (nI k))] 45 []
    have hG1 := tk_at (L := L) hk (0, v, 0, 0)
    obtain ⟨hn, -, hlo, hhi⟩ := h42_0 k _ hG1
    refine z_aload_n (pc := 45) F dX0_add_45 rfl 0 rfl ?_
    refine z_get (pc := 46) (v := .ref (r 3)) F iX0 0 rfl rfl 2 (by decide) tw_247 rfl dX0_add_46 ?_
    refine z_iload (pc := 49) F dX0_add_49 3 rfl ?_
    refine z_laldN (pc := 51) (f := lo1) F 3 1 rfl rfl k rfl (by omega) (by decide) dX0_add_51 ?_
    rw [show ((lo1) k) = 0 from hlo]
    refine z_lload_n (pc := 52) F dX0_add_52 rfl 2 rfl ?_
    refine z_ladd (pc := 53) F dX0_add_53 ?_
    refine z_lstore (pc := 54) (lv' := [(0, .ref (r 0)), (1, .long v), (3, .long s), (5, .int (nI k)), (6, .long (0 + s))]) F dX0_add_54 (by decide) [1, 2, 3, 4, 0] rfl ?_
    refine z_aload_n (pc := 56) F dX0_add_56 rfl 0 rfl ?_
    refine z_get (pc := 57) (v := .ref (r 4)) F iX0 0 rfl rfl 3 (by decide) tw_248 rfl dX0_add_57 ?_
    refine z_iload (pc := 60) F dX0_add_60 3 rfl ?_
    refine z_dup2_11 (pc := 62) F dX0_add_62 rfl rfl ?_
    refine z_laldN (pc := 63) (f := hi1) F 4 1 rfl rfl k rfl (by omega) (by decide) dX0_add_63 ?_
    rw [show ((hi1) k) = 0 from hhi]
    refine z_lload_n (pc := 64) F dX0_add_64 rfl 2 rfl ?_
    refine z_callS0 (pc := 65) (rest := [.long 0, .int (nI k), .ref (r 4)]) F (c_X0_signOf l E s) 1 ww_Groups_41 (by decide +kernel) rfl ⟨Nat.le_of_ble_eq_true rfl, Nat.le_of_ble_eq_true rfl⟩ ⟨Nat.le_of_ble_eq_true rfl, Nat.le_of_ble_eq_true rfl⟩ rfl (Nat.le_of_ble_eq_true rfl) dX0_add_65 (fun v_ w1_ hp => ?_)
    obtain ⟨rfl, rfl⟩ := hp
    show Z X (0) (0) (grw E r (mgv S (nI (L.length + 1)) va1 mn1 lo1 hi1)) [(0, .ref (r 0)), (1, .long v), (3, .long s), (5, .int (nI k)), (6, .long (0 + s))] 68 [.long (if 0 ≤ s then 0 else -1), .long 0, .int (nI k), .ref (r 4)]
    refine z_lload (pc := 68) F dX0_add_68 4 rfl ?_
    refine z_lload_n (pc := 70) F dX0_add_70 rfl 2 rfl ?_
    refine z_callS0 (pc := 71) (rest := [.long (if 0 ≤ s then 0 else -1), .long 0, .int (nI k), .ref (r 4)]) F (c_X0_isLessUnsigned l E (0 + s) s) 2 ww_Groups_45 (by decide +kernel) rfl ⟨Nat.le_of_ble_eq_true rfl, Nat.le_of_ble_eq_true rfl⟩ ⟨Nat.le_of_ble_eq_true rfl, Nat.le_of_ble_eq_true rfl⟩ rfl (Nat.le_of_ble_eq_true rfl) dX0_add_71 (fun v_ w1_ hp => ?_)
    obtain ⟨rfl, rfl⟩ := hp
    show Z X (0) (0) (grw E r (mgv S (nI (L.length + 1)) va1 mn1 lo1 hi1)) [(0, .ref (r 0)), (1, .long v), (3, .long s), (5, .int (nI k)), (6, .long (0 + s))] 74 [.int (bI (ltU (0 + s) s)), .long (if 0 ≤ s then 0 else -1), .long 0, .int (nI k), .ref (r 4)]
    refine z_if_eq (pc := 74) (tgt := 81) F dX0_add_74 (by decide) (fun c74 => ?_) (fun c74 => ?_)
    · replace c74 := bI_f c74
      refine z_iconst (pc := 81) (v := 0) F dX0_add_81 (by decide) ?_
      refine z_i2l (pc := 82) F dX0_add_82 ?_
      refine z_ladd (pc := 83) F dX0_add_83 ?_
      refine z_ladd (pc := 84) F dX0_add_84 ?_
      refine z_lastN (pc := 85) (ws' := grw E r (mgv S (nI (L.length + 1)) va1 mn1 lo1 (vp_updL hi1 k (0 + ((if 0 ≤ s then 0 else -1) + ((0 : Int32).toInt64)))))) (f := hi1) F 4 1 rfl rfl k rfl (by omega) (by decide) dX0_add_85 rfl ?_
      refine z_aload_n (pc := 86) F dX0_add_86 rfl 0 rfl ?_
      refine z_get (pc := 87) (v := .ref (r 3)) F iX0 0 rfl rfl 2 (by decide) tw_247 rfl dX0_add_87 ?_
      refine z_iload (pc := 90) F dX0_add_90 3 rfl ?_
      refine z_lload (pc := 92) F dX0_add_92 4 rfl ?_
      refine z_lastN (pc := 94) (ws' := grw E r (mgv S (nI (L.length + 1)) va1 mn1 (vp_updL lo1 k (0 + s)) (vp_updL hi1 k (0 + ((if 0 ≤ s then 0 else -1) + ((0 : Int32).toInt64)))))) (f := lo1) F 3 1 rfl rfl k rfl (by omega) (by decide) dX0_add_94 rfl ?_
      refine z_aload_n (pc := 95) F dX0_add_95 rfl 0 rfl ?_
      refine z_get (pc := 96) (v := .ref (r 2)) F iX0 0 rfl rfl 1 (by decide) tw_246 rfl dX0_add_96 ?_
      refine z_iload (pc := 99) F dX0_add_99 3 rfl ?_
      refine z_dup2_11 (pc := 101) F dX0_add_101 rfl rfl ?_
      refine z_ialdN (pc := 102) (f := mn1) F 2 0 rfl rfl k rfl (by omega) (by decide) dX0_add_102 ?_
      rw [show ((mn1) k) = nI 0 from hn]
      refine z_iconst (pc := 103) (v := 1) F dX0_add_103 (by decide) ?_
      refine z_iadd (pc := 104) F dX0_add_104 ?_
      rw [show ((nI 0) + 1) = nI (0 + 1) from (nI_1 _)]
      refine z_iastN (pc := 105) (ws' := grw E r (mgv S (nI (L.length + 1)) va1 (upd mn1 k (nI (0 + 1))) (vp_updL lo1 k (0 + s)) (vp_updL hi1 k (0 + ((if 0 ≤ s then 0 else -1) + ((0 : Int32).toInt64)))))) (f := mn1) F 2 0 rfl rfl k rfl (by omega) (by decide) dX0_add_105 rfl ?_
      exact z_vret (pc := 106) F hR dX0_add_106 (Nat.le_of_ble_eq_true rfl) (Nat.le_of_ble_eq_true rfl) ⟨va1, upd mn1 k (nI (0 + 1)), vp_updL lo1 k (0 + s), vp_updL hi1 k (0 + ((if 0 ≤ s then 0 else -1) + ((0 : Int32).toInt64))), rfl, by rw [e2], by rw [e1, upG_f (g := (0, v, 0, 0)) c74]; exact hoG_set h42_0 hG1 _ rfl⟩
    · replace c74 := bI_t c74
      refine z_iconst (pc := 77) (v := 1) F dX0_add_77 (by decide) ?_
      refine z_goto (pc := 78) (tgt := 82) F dX0_add_78 (by decide) ?_
      refine z_i2l (pc := 82) F dX0_add_82 ?_
      refine z_ladd (pc := 83) F dX0_add_83 ?_
      refine z_ladd (pc := 84) F dX0_add_84 ?_
      refine z_lastN (pc := 85) (ws' := grw E r (mgv S (nI (L.length + 1)) va1 mn1 lo1 (vp_updL hi1 k (0 + ((if 0 ≤ s then 0 else -1) + ((1 : Int32).toInt64)))))) (f := hi1) F 4 1 rfl rfl k rfl (by omega) (by decide) dX0_add_85 rfl ?_
      refine z_aload_n (pc := 86) F dX0_add_86 rfl 0 rfl ?_
      refine z_get (pc := 87) (v := .ref (r 3)) F iX0 0 rfl rfl 2 (by decide) tw_247 rfl dX0_add_87 ?_
      refine z_iload (pc := 90) F dX0_add_90 3 rfl ?_
      refine z_lload (pc := 92) F dX0_add_92 4 rfl ?_
      refine z_lastN (pc := 94) (ws' := grw E r (mgv S (nI (L.length + 1)) va1 mn1 (vp_updL lo1 k (0 + s)) (vp_updL hi1 k (0 + ((if 0 ≤ s then 0 else -1) + ((1 : Int32).toInt64)))))) (f := lo1) F 3 1 rfl rfl k rfl (by omega) (by decide) dX0_add_94 rfl ?_
      refine z_aload_n (pc := 95) F dX0_add_95 rfl 0 rfl ?_
      refine z_get (pc := 96) (v := .ref (r 2)) F iX0 0 rfl rfl 1 (by decide) tw_246 rfl dX0_add_96 ?_
      refine z_iload (pc := 99) F dX0_add_99 3 rfl ?_
      refine z_dup2_11 (pc := 101) F dX0_add_101 rfl rfl ?_
      refine z_ialdN (pc := 102) (f := mn1) F 2 0 rfl rfl k rfl (by omega) (by decide) dX0_add_102 ?_
      rw [show ((mn1) k) = nI 0 from hn]
      refine z_iconst (pc := 103) (v := 1) F dX0_add_103 (by decide) ?_
      refine z_iadd (pc := 104) F dX0_add_104 ?_
      rw [show ((nI 0) + 1) = nI (0 + 1) from (nI_1 _)]
      refine z_iastN (pc := 105) (ws' := grw E r (mgv S (nI (L.length + 1)) va1 (upd mn1 k (nI (0 + 1))) (vp_updL lo1 k (0 + s)) (vp_updL hi1 k (0 + ((if 0 ≤ s then 0 else -1) + ((1 : Int32).toInt64)))))) (f := mn1) F 2 0 rfl rfl k rfl (by omega) (by decide) dX0_add_105 rfl ?_
      exact z_vret (pc := 106) F hR dX0_add_106 (Nat.le_of_ble_eq_true rfl) (Nat.le_of_ble_eq_true rfl) ⟨va1, upd mn1 k (nI (0 + 1)), vp_updL lo1 k (0 + s), vp_updL hi1 k (0 + ((if 0 ≤ s then 0 else -1) + ((1 : Int32).toInt64))), rfl, by rw [e2], by rw [e1, upG_t (g := (0, v, 0, 0)) c74]; exact hoG_set h42_0 hG1 _ rfl⟩
  · replace c13 := bI_t c13
    have hkl := of_decide_eq_true c13
    obtain ⟨y, hy⟩ : ∃ y, L[k]? = some y := ⟨_, List.getElem?_eq_getElem hkl⟩
    obtain ⟨hyn, hyv, hyl, hyh⟩ := hh k y hy
    refine z_aload_n (pc := 16) F dX0_add_16 rfl 0 rfl ?_
    refine z_get (pc := 17) (v := .ref (r 1)) F iX0 0 rfl rfl 0 (by decide) tw_245 rfl dX0_add_17 ?_
    refine z_iload (pc := 20) F dX0_add_20 3 rfl ?_
    refine z_laldN (pc := 22) (f := zb S 1) F 1 1 rfl rfl k rfl (by omega) (by decide) dX0_add_22 ?_
    rw [show (zb S 1 k) = y.2.1 from hyv]
    refine z_lload_n (pc := 23) F dX0_add_23 rfl 1 rfl ?_
    refine z_l_eq (pc := 24) (tgt := 45) F dX0_add_24 dX0_add_25 (by decide) (fun c24 => ?_) (fun c24 => ?_)
    · have hn := hyn
      have hlo := hyl
      have hhi := hyh
      have e1 := addG_eq v s L k y hy c24 hlt
      have e2 : (addG v s L).length = L.length := by rw [e1]; simp
      refine z_aload_n (pc := 45) F dX0_add_45 rfl 0 rfl ?_
      refine z_get (pc := 46) (v := .ref (r 3)) F iX0 0 rfl rfl 2 (by decide) tw_247 rfl dX0_add_46 ?_
      refine z_iload (pc := 49) F dX0_add_49 3 rfl ?_
      refine z_laldN (pc := 51) (f := zb S 3) F 3 1 rfl rfl k rfl (by omega) (by decide) dX0_add_51 ?_
      rw [show (zb S 3 k) = y.2.2.1 from hlo]
      refine z_lload_n (pc := 52) F dX0_add_52 rfl 2 rfl ?_
      refine z_ladd (pc := 53) F dX0_add_53 ?_
      refine z_lstore (pc := 54) (lv' := [(0, .ref (r 0)), (1, .long v), (3, .long s), (5, .int (nI k)), (6, .long ((y.2.2.1) + s))]) F dX0_add_54 (by decide) [1, 2, 3, 4, 0] rfl ?_
      refine z_aload_n (pc := 56) F dX0_add_56 rfl 0 rfl ?_
      refine z_get (pc := 57) (v := .ref (r 4)) F iX0 0 rfl rfl 3 (by decide) tw_248 rfl dX0_add_57 ?_
      refine z_iload (pc := 60) F dX0_add_60 3 rfl ?_
      refine z_dup2_11 (pc := 62) F dX0_add_62 rfl rfl ?_
      refine z_laldN (pc := 63) (f := zb S 4) F 4 1 rfl rfl k rfl (by omega) (by decide) dX0_add_63 ?_
      rw [show (zb S 4 k) = y.2.2.2 from hhi]
      refine z_lload_n (pc := 64) F dX0_add_64 rfl 2 rfl ?_
      refine z_callS0 (pc := 65) (rest := [.long (y.2.2.2), .int (nI k), .ref (r 4)]) F (c_X0_signOf l E s) 1 ww_Groups_41 (by decide +kernel) rfl ⟨Nat.le_of_ble_eq_true rfl, Nat.le_of_ble_eq_true rfl⟩ ⟨Nat.le_of_ble_eq_true rfl, Nat.le_of_ble_eq_true rfl⟩ rfl (Nat.le_of_ble_eq_true rfl) dX0_add_65 (fun v_ w1_ hp => ?_)
      obtain ⟨rfl, rfl⟩ := hp
      show Z X (0) (0) (grw E r (mgv S (nI L.length) (zb S 1) (za S 2) (zb S 3) (zb S 4))) [(0, .ref (r 0)), (1, .long v), (3, .long s), (5, .int (nI k)), (6, .long ((y.2.2.1) + s))] 68 [.long (if 0 ≤ s then 0 else -1), .long (y.2.2.2), .int (nI k), .ref (r 4)]
      refine z_lload (pc := 68) F dX0_add_68 4 rfl ?_
      refine z_lload_n (pc := 70) F dX0_add_70 rfl 2 rfl ?_
      refine z_callS0 (pc := 71) (rest := [.long (if 0 ≤ s then 0 else -1), .long (y.2.2.2), .int (nI k), .ref (r 4)]) F (c_X0_isLessUnsigned l E ((y.2.2.1) + s) s) 2 ww_Groups_45 (by decide +kernel) rfl ⟨Nat.le_of_ble_eq_true rfl, Nat.le_of_ble_eq_true rfl⟩ ⟨Nat.le_of_ble_eq_true rfl, Nat.le_of_ble_eq_true rfl⟩ rfl (Nat.le_of_ble_eq_true rfl) dX0_add_71 (fun v_ w1_ hp => ?_)
      obtain ⟨rfl, rfl⟩ := hp
      show Z X (0) (0) (grw E r (mgv S (nI L.length) (zb S 1) (za S 2) (zb S 3) (zb S 4))) [(0, .ref (r 0)), (1, .long v), (3, .long s), (5, .int (nI k)), (6, .long ((y.2.2.1) + s))] 74 [.int (bI (ltU ((y.2.2.1) + s) s)), .long (if 0 ≤ s then 0 else -1), .long (y.2.2.2), .int (nI k), .ref (r 4)]
      refine z_if_eq (pc := 74) (tgt := 81) F dX0_add_74 (by decide) (fun c74 => ?_) (fun c74 => ?_)
      · replace c74 := bI_f c74
        refine z_iconst (pc := 81) (v := 0) F dX0_add_81 (by decide) ?_
        refine z_i2l (pc := 82) F dX0_add_82 ?_
        refine z_ladd (pc := 83) F dX0_add_83 ?_
        refine z_ladd (pc := 84) F dX0_add_84 ?_
        refine z_lastN (pc := 85) (ws' := grw E r (mgv S (nI L.length) (zb S 1) (za S 2) (zb S 3) (vp_updL (zb S 4) k ((y.2.2.2) + ((if 0 ≤ s then 0 else -1) + ((0 : Int32).toInt64)))))) (f := zb S 4) F 4 1 rfl rfl k rfl (by omega) (by decide) dX0_add_85 rfl ?_
        refine z_aload_n (pc := 86) F dX0_add_86 rfl 0 rfl ?_
        refine z_get (pc := 87) (v := .ref (r 3)) F iX0 0 rfl rfl 2 (by decide) tw_247 rfl dX0_add_87 ?_
        refine z_iload (pc := 90) F dX0_add_90 3 rfl ?_
        refine z_lload (pc := 92) F dX0_add_92 4 rfl ?_
        refine z_lastN (pc := 94) (ws' := grw E r (mgv S (nI L.length) (zb S 1) (za S 2) (vp_updL (zb S 3) k ((y.2.2.1) + s)) (vp_updL (zb S 4) k ((y.2.2.2) + ((if 0 ≤ s then 0 else -1) + ((0 : Int32).toInt64)))))) (f := zb S 3) F 3 1 rfl rfl k rfl (by omega) (by decide) dX0_add_94 rfl ?_
        refine z_aload_n (pc := 95) F dX0_add_95 rfl 0 rfl ?_
        refine z_get (pc := 96) (v := .ref (r 2)) F iX0 0 rfl rfl 1 (by decide) tw_246 rfl dX0_add_96 ?_
        refine z_iload (pc := 99) F dX0_add_99 3 rfl ?_
        refine z_dup2_11 (pc := 101) F dX0_add_101 rfl rfl ?_
        refine z_ialdN (pc := 102) (f := za S 2) F 2 0 rfl rfl k rfl (by omega) (by decide) dX0_add_102 ?_
        rw [show (za S 2 k) = nI y.1 from hn]
        refine z_iconst (pc := 103) (v := 1) F dX0_add_103 (by decide) ?_
        refine z_iadd (pc := 104) F dX0_add_104 ?_
        rw [show ((nI y.1) + 1) = nI (y.1 + 1) from (nI_1 _)]
        refine z_iastN (pc := 105) (ws' := grw E r (mgv S (nI L.length) (zb S 1) (upd (za S 2) k (nI (y.1 + 1))) (vp_updL (zb S 3) k ((y.2.2.1) + s)) (vp_updL (zb S 4) k ((y.2.2.2) + ((if 0 ≤ s then 0 else -1) + ((0 : Int32).toInt64)))))) (f := za S 2) F 2 0 rfl rfl k rfl (by omega) (by decide) dX0_add_105 rfl ?_
        exact z_vret (pc := 106) F hR dX0_add_106 (Nat.le_of_ble_eq_true rfl) (Nat.le_of_ble_eq_true rfl) ⟨zb S 1, upd (za S 2) k (nI (y.1 + 1)), vp_updL (zb S 3) k ((y.2.2.1) + s), vp_updL (zb S 4) k ((y.2.2.2) + ((if 0 ≤ s then 0 else -1) + ((0 : Int32).toInt64))), rfl, by rw [e2], by rw [e1, upG_f (g := y) c74]; exact hoG_set hh hy _ rfl⟩
      · replace c74 := bI_t c74
        refine z_iconst (pc := 77) (v := 1) F dX0_add_77 (by decide) ?_
        refine z_goto (pc := 78) (tgt := 82) F dX0_add_78 (by decide) ?_
        refine z_i2l (pc := 82) F dX0_add_82 ?_
        refine z_ladd (pc := 83) F dX0_add_83 ?_
        refine z_ladd (pc := 84) F dX0_add_84 ?_
        refine z_lastN (pc := 85) (ws' := grw E r (mgv S (nI L.length) (zb S 1) (za S 2) (zb S 3) (vp_updL (zb S 4) k ((y.2.2.2) + ((if 0 ≤ s then 0 else -1) + ((1 : Int32).toInt64)))))) (f := zb S 4) F 4 1 rfl rfl k rfl (by omega) (by decide) dX0_add_85 rfl ?_
        refine z_aload_n (pc := 86) F dX0_add_86 rfl 0 rfl ?_
        refine z_get (pc := 87) (v := .ref (r 3)) F iX0 0 rfl rfl 2 (by decide) tw_247 rfl dX0_add_87 ?_
        refine z_iload (pc := 90) F dX0_add_90 3 rfl ?_
        refine z_lload (pc := 92) F dX0_add_92 4 rfl ?_
        refine z_lastN (pc := 94) (ws' := grw E r (mgv S (nI L.length) (zb S 1) (za S 2) (vp_updL (zb S 3) k ((y.2.2.1) + s)) (vp_updL (zb S 4) k ((y.2.2.2) + ((if 0 ≤ s then 0 else -1) + ((1 : Int32).toInt64)))))) (f := zb S 3) F 3 1 rfl rfl k rfl (by omega) (by decide) dX0_add_94 rfl ?_
        refine z_aload_n (pc := 95) F dX0_add_95 rfl 0 rfl ?_
        refine z_get (pc := 96) (v := .ref (r 2)) F iX0 0 rfl rfl 1 (by decide) tw_246 rfl dX0_add_96 ?_
        refine z_iload (pc := 99) F dX0_add_99 3 rfl ?_
        refine z_dup2_11 (pc := 101) F dX0_add_101 rfl rfl ?_
        refine z_ialdN (pc := 102) (f := za S 2) F 2 0 rfl rfl k rfl (by omega) (by decide) dX0_add_102 ?_
        rw [show (za S 2 k) = nI y.1 from hn]
        refine z_iconst (pc := 103) (v := 1) F dX0_add_103 (by decide) ?_
        refine z_iadd (pc := 104) F dX0_add_104 ?_
        rw [show ((nI y.1) + 1) = nI (y.1 + 1) from (nI_1 _)]
        refine z_iastN (pc := 105) (ws' := grw E r (mgv S (nI L.length) (zb S 1) (upd (za S 2) k (nI (y.1 + 1))) (vp_updL (zb S 3) k ((y.2.2.1) + s)) (vp_updL (zb S 4) k ((y.2.2.2) + ((if 0 ≤ s then 0 else -1) + ((1 : Int32).toInt64)))))) (f := za S 2) F 2 0 rfl rfl k rfl (by omega) (by decide) dX0_add_105 rfl ?_
        exact z_vret (pc := 106) F hR dX0_add_106 (Nat.le_of_ble_eq_true rfl) (Nat.le_of_ble_eq_true rfl) ⟨zb S 1, upd (za S 2) k (nI (y.1 + 1)), vp_updL (zb S 3) k ((y.2.2.1) + s), vp_updL (zb S 4) k ((y.2.2.2) + ((if 0 ≤ s then 0 else -1) + ((1 : Int32).toInt64))), rfl, by rw [e2], by rw [e1, upG_t (g := y) c74]; exact hoG_set hh hy _ rfl⟩
    · have e1 := addG_open v s L k hk hlt (fun y2 hy2 => by rw [hy] at hy2; cases hy2; exact l_ltn (hge y hy) c24)
      have h60 : L.length < 60 := by rw [e1, ad_len hk] at hroom; omega
      have e2 : (addG v s L).length = L.length + 1 := by rw [e1, ad_len hk]
      refine z_aload_n (pc := 28) F dX0_add_28 rfl 0 rfl ?_
      refine z_get (pc := 29) (v := .int (nI L.length)) F iX0 0 rfl rfl 4 (by decide) tw_249 rfl dX0_add_29 ?_
      refine z_bipush (pc := 32) (v := 60) F dX0_add_32 (by decide) ?_
      refine z_icmp_lt (pc := 34) (tgt := 38) F dX0_add_34 (by decide) (fun c34 => ?_) (fun c34 => absurd (nI_lt (b := 60) h60 (by decide)) c34)
      refine z_aload_n (pc := 38) F dX0_add_38 rfl 0 rfl ?_
      refine z_iload (pc := 39) F dX0_add_39 3 rfl ?_
      refine z_lload_n (pc := 41) F dX0_add_41 rfl 1 rfl ?_
      refine z_callVW (pc := 42) (q0 := 0) (ci := 0) (rest := []) F (c_X0_open l E r (mgv S (nI L.length) (zb S 1) (za S 2) (zb S 3) (zb S 4)) L k v hk h60 rfl hh) 2 ww_Groups_37 (by decide +kernel) rfl ⟨Nat.le_of_ble_eq_true rfl, Nat.le_of_ble_eq_true rfl⟩ ⟨Nat.le_of_ble_eq_true rfl, Nat.le_of_ble_eq_true rfl⟩ rfl rfl rfl rfl (Nat.le_of_ble_eq_true rfl) dX0_add_42 (fun v_ w1_ hp => ?_)
      obtain ⟨va1, mn1, lo1, hi1, rfl, rfl, h42_0⟩ := hp
      show Z X (0) (0) (grw E r (mgv S (nI (L.length + 1)) va1 mn1 lo1 hi1)) [(0, .ref (r 0)), (1, .long v), (3, .long s), (5, .int (nI k))] 45 []
      have hG1 := tk_at (L := L) hk (0, v, 0, 0)
      obtain ⟨hn, -, hlo, hhi⟩ := h42_0 k _ hG1
      refine z_aload_n (pc := 45) F dX0_add_45 rfl 0 rfl ?_
      refine z_get (pc := 46) (v := .ref (r 3)) F iX0 0 rfl rfl 2 (by decide) tw_247 rfl dX0_add_46 ?_
      refine z_iload (pc := 49) F dX0_add_49 3 rfl ?_
      refine z_laldN (pc := 51) (f := lo1) F 3 1 rfl rfl k rfl (by omega) (by decide) dX0_add_51 ?_
      rw [show ((lo1) k) = 0 from hlo]
      refine z_lload_n (pc := 52) F dX0_add_52 rfl 2 rfl ?_
      refine z_ladd (pc := 53) F dX0_add_53 ?_
      refine z_lstore (pc := 54) (lv' := [(0, .ref (r 0)), (1, .long v), (3, .long s), (5, .int (nI k)), (6, .long (0 + s))]) F dX0_add_54 (by decide) [1, 2, 3, 4, 0] rfl ?_
      refine z_aload_n (pc := 56) F dX0_add_56 rfl 0 rfl ?_
      refine z_get (pc := 57) (v := .ref (r 4)) F iX0 0 rfl rfl 3 (by decide) tw_248 rfl dX0_add_57 ?_
      refine z_iload (pc := 60) F dX0_add_60 3 rfl ?_
      refine z_dup2_11 (pc := 62) F dX0_add_62 rfl rfl ?_
      refine z_laldN (pc := 63) (f := hi1) F 4 1 rfl rfl k rfl (by omega) (by decide) dX0_add_63 ?_
      rw [show ((hi1) k) = 0 from hhi]
      refine z_lload_n (pc := 64) F dX0_add_64 rfl 2 rfl ?_
      refine z_callS0 (pc := 65) (rest := [.long 0, .int (nI k), .ref (r 4)]) F (c_X0_signOf l E s) 1 ww_Groups_41 (by decide +kernel) rfl ⟨Nat.le_of_ble_eq_true rfl, Nat.le_of_ble_eq_true rfl⟩ ⟨Nat.le_of_ble_eq_true rfl, Nat.le_of_ble_eq_true rfl⟩ rfl (Nat.le_of_ble_eq_true rfl) dX0_add_65 (fun v_ w1_ hp => ?_)
      obtain ⟨rfl, rfl⟩ := hp
      show Z X (0) (0) (grw E r (mgv S (nI (L.length + 1)) va1 mn1 lo1 hi1)) [(0, .ref (r 0)), (1, .long v), (3, .long s), (5, .int (nI k)), (6, .long (0 + s))] 68 [.long (if 0 ≤ s then 0 else -1), .long 0, .int (nI k), .ref (r 4)]
      refine z_lload (pc := 68) F dX0_add_68 4 rfl ?_
      refine z_lload_n (pc := 70) F dX0_add_70 rfl 2 rfl ?_
      refine z_callS0 (pc := 71) (rest := [.long (if 0 ≤ s then 0 else -1), .long 0, .int (nI k), .ref (r 4)]) F (c_X0_isLessUnsigned l E (0 + s) s) 2 ww_Groups_45 (by decide +kernel) rfl ⟨Nat.le_of_ble_eq_true rfl, Nat.le_of_ble_eq_true rfl⟩ ⟨Nat.le_of_ble_eq_true rfl, Nat.le_of_ble_eq_true rfl⟩ rfl (Nat.le_of_ble_eq_true rfl) dX0_add_71 (fun v_ w1_ hp => ?_)
      obtain ⟨rfl, rfl⟩ := hp
      show Z X (0) (0) (grw E r (mgv S (nI (L.length + 1)) va1 mn1 lo1 hi1)) [(0, .ref (r 0)), (1, .long v), (3, .long s), (5, .int (nI k)), (6, .long (0 + s))] 74 [.int (bI (ltU (0 + s) s)), .long (if 0 ≤ s then 0 else -1), .long 0, .int (nI k), .ref (r 4)]
      refine z_if_eq (pc := 74) (tgt := 81) F dX0_add_74 (by decide) (fun c74 => ?_) (fun c74 => ?_)
      · replace c74 := bI_f c74
        refine z_iconst (pc := 81) (v := 0) F dX0_add_81 (by decide) ?_
        refine z_i2l (pc := 82) F dX0_add_82 ?_
        refine z_ladd (pc := 83) F dX0_add_83 ?_
        refine z_ladd (pc := 84) F dX0_add_84 ?_
        refine z_lastN (pc := 85) (ws' := grw E r (mgv S (nI (L.length + 1)) va1 mn1 lo1 (vp_updL hi1 k (0 + ((if 0 ≤ s then 0 else -1) + ((0 : Int32).toInt64)))))) (f := hi1) F 4 1 rfl rfl k rfl (by omega) (by decide) dX0_add_85 rfl ?_
        refine z_aload_n (pc := 86) F dX0_add_86 rfl 0 rfl ?_
        refine z_get (pc := 87) (v := .ref (r 3)) F iX0 0 rfl rfl 2 (by decide) tw_247 rfl dX0_add_87 ?_
        refine z_iload (pc := 90) F dX0_add_90 3 rfl ?_
        refine z_lload (pc := 92) F dX0_add_92 4 rfl ?_
        refine z_lastN (pc := 94) (ws' := grw E r (mgv S (nI (L.length + 1)) va1 mn1 (vp_updL lo1 k (0 + s)) (vp_updL hi1 k (0 + ((if 0 ≤ s then 0 else -1) + ((0 : Int32).toInt64)))))) (f := lo1) F 3 1 rfl rfl k rfl (by omega) (by decide) dX0_add_94 rfl ?_
        refine z_aload_n (pc := 95) F dX0_add_95 rfl 0 rfl ?_
        refine z_get (pc := 96) (v := .ref (r 2)) F iX0 0 rfl rfl 1 (by decide) tw_246 rfl dX0_add_96 ?_
        refine z_iload (pc := 99) F dX0_add_99 3 rfl ?_
        refine z_dup2_11 (pc := 101) F dX0_add_101 rfl rfl ?_
        refine z_ialdN (pc := 102) (f := mn1) F 2 0 rfl rfl k rfl (by omega) (by decide) dX0_add_102 ?_
        rw [show ((mn1) k) = nI 0 from hn]
        refine z_iconst (pc := 103) (v := 1) F dX0_add_103 (by decide) ?_
        refine z_iadd (pc := 104) F dX0_add_104 ?_
        rw [show ((nI 0) + 1) = nI (0 + 1) from (nI_1 _)]
        refine z_iastN (pc := 105) (ws' := grw E r (mgv S (nI (L.length + 1)) va1 (upd mn1 k (nI (0 + 1))) (vp_updL lo1 k (0 + s)) (vp_updL hi1 k (0 + ((if 0 ≤ s then 0 else -1) + ((0 : Int32).toInt64)))))) (f := mn1) F 2 0 rfl rfl k rfl (by omega) (by decide) dX0_add_105 rfl ?_
        exact z_vret (pc := 106) F hR dX0_add_106 (Nat.le_of_ble_eq_true rfl) (Nat.le_of_ble_eq_true rfl) ⟨va1, upd mn1 k (nI (0 + 1)), vp_updL lo1 k (0 + s), vp_updL hi1 k (0 + ((if 0 ≤ s then 0 else -1) + ((0 : Int32).toInt64))), rfl, by rw [e2], by rw [e1, upG_f (g := (0, v, 0, 0)) c74]; exact hoG_set h42_0 hG1 _ rfl⟩
      · replace c74 := bI_t c74
        refine z_iconst (pc := 77) (v := 1) F dX0_add_77 (by decide) ?_
        refine z_goto (pc := 78) (tgt := 82) F dX0_add_78 (by decide) ?_
        refine z_i2l (pc := 82) F dX0_add_82 ?_
        refine z_ladd (pc := 83) F dX0_add_83 ?_
        refine z_ladd (pc := 84) F dX0_add_84 ?_
        refine z_lastN (pc := 85) (ws' := grw E r (mgv S (nI (L.length + 1)) va1 mn1 lo1 (vp_updL hi1 k (0 + ((if 0 ≤ s then 0 else -1) + ((1 : Int32).toInt64)))))) (f := hi1) F 4 1 rfl rfl k rfl (by omega) (by decide) dX0_add_85 rfl ?_
        refine z_aload_n (pc := 86) F dX0_add_86 rfl 0 rfl ?_
        refine z_get (pc := 87) (v := .ref (r 3)) F iX0 0 rfl rfl 2 (by decide) tw_247 rfl dX0_add_87 ?_
        refine z_iload (pc := 90) F dX0_add_90 3 rfl ?_
        refine z_lload (pc := 92) F dX0_add_92 4 rfl ?_
        refine z_lastN (pc := 94) (ws' := grw E r (mgv S (nI (L.length + 1)) va1 mn1 (vp_updL lo1 k (0 + s)) (vp_updL hi1 k (0 + ((if 0 ≤ s then 0 else -1) + ((1 : Int32).toInt64)))))) (f := lo1) F 3 1 rfl rfl k rfl (by omega) (by decide) dX0_add_94 rfl ?_
        refine z_aload_n (pc := 95) F dX0_add_95 rfl 0 rfl ?_
        refine z_get (pc := 96) (v := .ref (r 2)) F iX0 0 rfl rfl 1 (by decide) tw_246 rfl dX0_add_96 ?_
        refine z_iload (pc := 99) F dX0_add_99 3 rfl ?_
        refine z_dup2_11 (pc := 101) F dX0_add_101 rfl rfl ?_
        refine z_ialdN (pc := 102) (f := mn1) F 2 0 rfl rfl k rfl (by omega) (by decide) dX0_add_102 ?_
        rw [show ((mn1) k) = nI 0 from hn]
        refine z_iconst (pc := 103) (v := 1) F dX0_add_103 (by decide) ?_
        refine z_iadd (pc := 104) F dX0_add_104 ?_
        rw [show ((nI 0) + 1) = nI (0 + 1) from (nI_1 _)]
        refine z_iastN (pc := 105) (ws' := grw E r (mgv S (nI (L.length + 1)) va1 (upd mn1 k (nI (0 + 1))) (vp_updL lo1 k (0 + s)) (vp_updL hi1 k (0 + ((if 0 ≤ s then 0 else -1) + ((1 : Int32).toInt64)))))) (f := mn1) F 2 0 rfl rfl k rfl (by omega) (by decide) dX0_add_105 rfl ?_
        exact z_vret (pc := 106) F hR dX0_add_106 (Nat.le_of_ble_eq_true rfl) (Nat.le_of_ble_eq_true rfl) ⟨va1, upd mn1 k (nI (0 + 1)), vp_updL lo1 k (0 + s), vp_updL hi1 k (0 + ((if 0 ≤ s then 0 else -1) + ((1 : Int32).toInt64))), rfl, by rw [e2], by rw [e1, upG_t (g := (0, v, 0, 0)) c74]; exact hoG_set h42_0 hG1 _ rfl⟩

set_option maxHeartbeats 4000000 in
set_option maxRecDepth 100000 in
theorem c_X0_subtract (l : Launch) (E : zE) (r : Nat → Nat) (S : zS) (L : List zRow) (v : Int64) (s : Int64) (k : Nat) (y : zRow) (c : Nat) (hL : L.length ≤ 60) (hs : srG L) (hy : L[k]? = some y) (hv : y.2.1 = v) (hc : y.1 = c + 1) (hc2 : c < 2 ^ 31) (hg : zi S 0 = nI L.length) (hh : hoR L (za S 2) (zb S 1) (zb S 3) (zb S 4)) : Ct l yX0_subtract cX0_subtract 6 (none) ({ frames := 2, cells := 0, slots := 0, locals := 60 } : Room) E (grw E r S) [.ref (r 0), .long v, .long s] (fun v_ w_ => ∃ va : Nat → Int64, ∃ mn : Nat → Int32, ∃ lo : Nat → Int64, ∃ hi : Nat → Int64, v_ = none ∧ w_ = grw E r (mgv S (nI (subG k s y L).length) va mn lo hi) ∧ (hoR (subG k s y L) mn va lo hi)) := by
  refine Ct.of (by decide) (Nat.le_of_ble_eq_true rfl) (lv := [(0, .ref (r 0)), (1, .long v), (3, .long s)]) rfl ?_
  intro X F hR
  have F : zF X l ({ frames := 2, cells := 0, slots := 0, locals := 60 } : Room) E cX0_subtract 6 "LiveQueries$Groups" := F
  show Z X 0 0 (grw E r (mgv S (zi S 0) (zb S 1) (za S 2) (zb S 3) (zb S 4))) [(0, .ref (r 0)), (1, .long v), (3, .long s)] 0 []
  rw [hg]
  refine z_aload_n (pc := 0) F dX0_subtract_0 rfl 0 rfl ?_
  refine z_lload_n (pc := 1) F dX0_subtract_1 rfl 1 rfl ?_
  refine z_callVW (pc := 2) (q0 := 0) (ci := 0) (rest := []) F (c_X0_placeOf l E r (mgv S (nI L.length) (zb S 1) (za S 2) (zb S 3) (zb S 4)) L v hL rfl hh) 1 ww_Groups_33 (by decide +kernel) rfl ⟨Nat.le_of_ble_eq_true rfl, Nat.le_of_ble_eq_true rfl⟩ ⟨Nat.le_of_ble_eq_true rfl, Nat.le_of_ble_eq_true rfl⟩ rfl rfl rfl rfl (Nat.le_of_ble_eq_true rfl) dX0_subtract_2 (fun v_ w1_ hp => ?_)
  obtain ⟨k', rfl, rfl, h2_0⟩ := hp
  show Z X (0) (0) (grw E r (mgv S (nI L.length) (zb S 1) (za S 2) (zb S 3) (zb S 4))) [(0, .ref (r 0)), (1, .long v), (3, .long s)] 5 [.int (nI k')]
  have hkl := (List.getElem?_eq_some_iff.mp hy).1
  obtain ⟨hyn, hyv, hyl, hyh⟩ := hh k y hy
  have hkk : k' = k := plU hs hy hv h2_0.1 h2_0.2.1 h2_0.2.2
  rw [show (nI k') = nI k from (congrArg nI hkk)]
  refine z_istore (pc := 5) (lv' := [(0, .ref (r 0)), (1, .long v), (3, .long s), (5, .int (nI k))]) F dX0_subtract_5 (by decide) [1, 2, 3, 0] rfl ?_
  refine z_aload_n (pc := 7) F dX0_subtract_7 rfl 0 rfl ?_
  refine z_iload (pc := 8) F dX0_subtract_8 3 rfl ?_
  refine z_callVW (pc := 10) (q0 := 0) (ci := 0) (rest := []) F (c_X0_has l E r (mgv S (nI L.length) (zb S 1) (za S 2) (zb S 3) (zb S 4)) L k hL rfl (by omega)) 1 ww_Groups_29 (by decide +kernel) rfl ⟨Nat.le_of_ble_eq_true rfl, Nat.le_of_ble_eq_true rfl⟩ ⟨Nat.le_of_ble_eq_true rfl, Nat.le_of_ble_eq_true rfl⟩ rfl rfl rfl rfl (Nat.le_of_ble_eq_true rfl) dX0_subtract_10 (fun v_ w1_ hp => ?_)
  obtain ⟨rfl, rfl⟩ := hp
  show Z X (0) (0) (grw E r (mgv S (nI L.length) (zb S 1) (za S 2) (zb S 3) (zb S 4))) [(0, .ref (r 0)), (1, .long v), (3, .long s), (5, .int (nI k))] 13 [.int (bI (decide (k < L.length)))]
  rw [show (bI (decide (k < L.length))) = 1 from (congrArg bI (decide_eq_true hkl))]
  refine z_if_eq (pc := 13) (tgt := 28) F dX0_subtract_13 (by decide) (fun h => absurd h (by decide)) (fun _ => ?_)
  refine z_aload_n (pc := 16) F dX0_subtract_16 rfl 0 rfl ?_
  refine z_get (pc := 17) (v := .ref (r 1)) F iX0 0 rfl rfl 0 (by decide) tw_245 rfl dX0_subtract_17 ?_
  refine z_iload (pc := 20) F dX0_subtract_20 3 rfl ?_
  refine z_laldN (pc := 22) (f := zb S 1) F 1 1 rfl rfl k rfl (by omega) (by decide) dX0_subtract_22 ?_
  rw [show (zb S 1 k) = v from (hyv.trans hv)]
  refine z_lload_n (pc := 23) F dX0_subtract_23 rfl 1 rfl ?_
  refine z_l_eq (pc := 24) (tgt := 29) F dX0_subtract_24 dX0_subtract_25 (by decide) (fun c24 => ?_) (fun c24 => absurd rfl c24)
  refine z_aload_n (pc := 29) F dX0_subtract_29 rfl 0 rfl ?_
  refine z_get (pc := 30) (v := .ref (r 4)) F iX0 0 rfl rfl 3 (by decide) tw_248 rfl dX0_subtract_30 ?_
  refine z_iload (pc := 33) F dX0_subtract_33 3 rfl ?_
  refine z_dup2_11 (pc := 35) F dX0_subtract_35 rfl rfl ?_
  refine z_laldN (pc := 36) (f := zb S 4) F 4 1 rfl rfl k rfl (by omega) (by decide) dX0_subtract_36 ?_
  rw [show (zb S 4 k) = y.2.2.2 from hyh]
  refine z_lload_n (pc := 37) F dX0_subtract_37 rfl 2 rfl ?_
  refine z_callS0 (pc := 38) (rest := [.long (y.2.2.2), .int (nI k), .ref (r 4)]) F (c_X0_signOf l E s) 1 ww_Groups_41 (by decide +kernel) rfl ⟨Nat.le_of_ble_eq_true rfl, Nat.le_of_ble_eq_true rfl⟩ ⟨Nat.le_of_ble_eq_true rfl, Nat.le_of_ble_eq_true rfl⟩ rfl (Nat.le_of_ble_eq_true rfl) dX0_subtract_38 (fun v_ w1_ hp => ?_)
  obtain ⟨rfl, rfl⟩ := hp
  show Z X (0) (0) (grw E r (mgv S (nI L.length) (zb S 1) (za S 2) (zb S 3) (zb S 4))) [(0, .ref (r 0)), (1, .long v), (3, .long s), (5, .int (nI k))] 41 [.long (if 0 ≤ s then 0 else -1), .long (y.2.2.2), .int (nI k), .ref (r 4)]
  refine z_aload_n (pc := 41) F dX0_subtract_41 rfl 0 rfl ?_
  refine z_get (pc := 42) (v := .ref (r 3)) F iX0 0 rfl rfl 2 (by decide) tw_247 rfl dX0_subtract_42 ?_
  refine z_iload (pc := 45) F dX0_subtract_45 3 rfl ?_
  refine z_laldN (pc := 47) (f := zb S 3) F 3 1 rfl rfl k rfl (by omega) (by decide) dX0_subtract_47 ?_
  rw [show (zb S 3 k) = y.2.2.1 from hyl]
  refine z_lload_n (pc := 48) F dX0_subtract_48 rfl 2 rfl ?_
  refine z_callS0 (pc := 49) (rest := [.long (if 0 ≤ s then 0 else -1), .long (y.2.2.2), .int (nI k), .ref (r 4)]) F (c_X0_isLessUnsigned l E (y.2.2.1) s) 2 ww_Groups_45 (by decide +kernel) rfl ⟨Nat.le_of_ble_eq_true rfl, Nat.le_of_ble_eq_true rfl⟩ ⟨Nat.le_of_ble_eq_true rfl, Nat.le_of_ble_eq_true rfl⟩ rfl (Nat.le_of_ble_eq_true rfl) dX0_subtract_49 (fun v_ w1_ hp => ?_)
  obtain ⟨rfl, rfl⟩ := hp
  show Z X (0) (0) (grw E r (mgv S (nI L.length) (zb S 1) (za S 2) (zb S 3) (zb S 4))) [(0, .ref (r 0)), (1, .long v), (3, .long s), (5, .int (nI k))] 52 [.int (bI (ltU (y.2.2.1) s)), .long (if 0 ≤ s then 0 else -1), .long (y.2.2.2), .int (nI k), .ref (r 4)]
  refine z_if_eq (pc := 52) (tgt := 59) F dX0_subtract_52 (by decide) (fun c52 => ?_) (fun c52 => ?_)
  · replace c52 := bI_f c52
    refine z_iconst (pc := 59) (v := 0) F dX0_subtract_59 (by decide) ?_
    refine z_i2l (pc := 60) F dX0_subtract_60 ?_
    refine z_ladd (pc := 61) F dX0_subtract_61 ?_
    refine z_lsub (pc := 62) F dX0_subtract_62 ?_
    refine z_lastN (pc := 63) (ws' := grw E r (mgv S (nI L.length) (zb S 1) (za S 2) (zb S 3) (vp_updL (zb S 4) k ((y.2.2.2) - ((if 0 ≤ s then 0 else -1) + ((0 : Int32).toInt64)))))) (f := zb S 4) F 4 1 rfl rfl k rfl (by omega) (by decide) dX0_subtract_63 rfl ?_
    refine z_aload_n (pc := 64) F dX0_subtract_64 rfl 0 rfl ?_
    refine z_get (pc := 65) (v := .ref (r 3)) F iX0 0 rfl rfl 2 (by decide) tw_247 rfl dX0_subtract_65 ?_
    refine z_iload (pc := 68) F dX0_subtract_68 3 rfl ?_
    refine z_dup2_11 (pc := 70) F dX0_subtract_70 rfl rfl ?_
    refine z_laldN (pc := 71) (f := zb S 3) F 3 1 rfl rfl k rfl (by omega) (by decide) dX0_subtract_71 ?_
    rw [show (zb S 3 k) = y.2.2.1 from hyl]
    refine z_lload_n (pc := 72) F dX0_subtract_72 rfl 2 rfl ?_
    refine z_lsub (pc := 73) F dX0_subtract_73 ?_
    refine z_lastN (pc := 74) (ws' := grw E r (mgv S (nI L.length) (zb S 1) (za S 2) (vp_updL (zb S 3) k ((y.2.2.1) - s)) (vp_updL (zb S 4) k ((y.2.2.2) - ((if 0 ≤ s then 0 else -1) + ((0 : Int32).toInt64)))))) (f := zb S 3) F 3 1 rfl rfl k rfl (by omega) (by decide) dX0_subtract_74 rfl ?_
    refine z_aload_n (pc := 75) F dX0_subtract_75 rfl 0 rfl ?_
    refine z_get (pc := 76) (v := .ref (r 2)) F iX0 0 rfl rfl 1 (by decide) tw_246 rfl dX0_subtract_76 ?_
    refine z_iload (pc := 79) F dX0_subtract_79 3 rfl ?_
    refine z_dup2_11 (pc := 81) F dX0_subtract_81 rfl rfl ?_
    refine z_ialdN (pc := 82) (f := za S 2) F 2 0 rfl rfl k rfl (by omega) (by decide) dX0_subtract_82 ?_
    rw [show (za S 2 k) = nI (c + 1) from (by rw [hyn, hc])]
    refine z_iconst (pc := 83) (v := 1) F dX0_subtract_83 (by decide) ?_
    refine z_isub (pc := 84) F dX0_subtract_84 ?_
    rw [show ((nI (c + 1)) - 1) = nI c from (nI_pred c)]
    refine z_iastN (pc := 85) (ws' := grw E r (mgv S (nI L.length) (zb S 1) (upd (za S 2) k (nI c)) (vp_updL (zb S 3) k ((y.2.2.1) - s)) (vp_updL (zb S 4) k ((y.2.2.2) - ((if 0 ≤ s then 0 else -1) + ((0 : Int32).toInt64)))))) (f := za S 2) F 2 0 rfl rfl k rfl (by omega) (by decide) dX0_subtract_85 rfl ?_
    refine z_aload_n (pc := 86) F dX0_subtract_86 rfl 0 rfl ?_
    refine z_get (pc := 87) (v := .ref (r 2)) F iX0 0 rfl rfl 1 (by decide) tw_246 rfl dX0_subtract_87 ?_
    refine z_iload (pc := 90) F dX0_subtract_90 3 rfl ?_
    refine z_ialdN (pc := 92) (f := upd (za S 2) k (nI c)) F 2 0 rfl rfl k rfl (by omega) (by decide) dX0_subtract_92 ?_
    rw [show ((upd (za S 2) k (nI c)) k) = nI c from pk_us]
    refine z_if_ne (pc := 93) (tgt := 102) F dX0_subtract_93 (by decide) (fun c93 => ?_) (fun c93 => ?_)
    · have hcn : ¬ c = 0 := fun h => c93 (by rw [h]; rfl)
      have eS : subG k s y L = L.set k (dnG s y) := if_neg (by omega)
      exact z_vret (pc := 102) F hR dX0_subtract_102 (Nat.le_of_ble_eq_true rfl) (Nat.le_of_ble_eq_true rfl) ⟨zb S 1, upd (za S 2) k (nI c), vp_updL (zb S 3) k ((y.2.2.1) - s), vp_updL (zb S 4) k ((y.2.2.2) - ((if 0 ≤ s then 0 else -1) + ((0 : Int32).toInt64))), rfl, by rw [eS, List.length_set], by rw [eS, dnG_f hc c52]; exact hoG_set hh hy (c, y.2.1, y.2.2.1 - s, y.2.2.2 - ((if 0 ≤ s then 0 else -1) + (0 : Int32).toInt64)) rfl⟩
    · have hc0 : c = 0 := (nI_eq (a := c) (b := 0) (by omega) (by omega)).mp c93
      have eS : subG k s y L = L.eraseIdx k := if_pos (by omega)
      refine z_aload_n (pc := 96) F dX0_subtract_96 rfl 0 rfl ?_
      refine z_iload (pc := 97) F dX0_subtract_97 3 rfl ?_
      refine z_callVW (pc := 99) (q0 := 0) (ci := 0) (rest := []) F (c_X0_close l E r (mgv S (nI L.length) (zb S 1) (upd (za S 2) k (nI c)) (vp_updL (zb S 3) k ((y.2.2.1) - s)) (vp_updL (zb S 4) k ((y.2.2.2) - ((if 0 ≤ s then 0 else -1) + ((0 : Int32).toInt64))))) (L.set k (c, y.2.1, y.2.2.1 - s, y.2.2.2 - ((if 0 ≤ s then 0 else -1) + (0 : Int32).toInt64))) k (by rw [List.length_set]; exact hkl) (by rw [List.length_set]; exact hL) (by rw [List.length_set]; rfl) (hoG_set hh hy (c, y.2.1, y.2.2.1 - s, y.2.2.2 - ((if 0 ≤ s then 0 else -1) + (0 : Int32).toInt64)) rfl)) 1 ww_Groups_49 (by decide +kernel) rfl ⟨Nat.le_of_ble_eq_true rfl, Nat.le_of_ble_eq_true rfl⟩ ⟨Nat.le_of_ble_eq_true rfl, Nat.le_of_ble_eq_true rfl⟩ rfl rfl rfl rfl (Nat.le_of_ble_eq_true rfl) dX0_subtract_99 (fun v_ w1_ hp => ?_)
      obtain ⟨va1, mn1, lo1, hi1, rfl, rfl, h99_0⟩ := hp
      show Z X (0) (0) (grw E r (mgv S (nI ((L.set k (c, y.2.1, y.2.2.1 - s, y.2.2.2 - ((if 0 ≤ s then 0 else -1) + (0 : Int32).toInt64))).length - 1)) va1 mn1 lo1 hi1)) [(0, .ref (r 0)), (1, .long v), (3, .long s), (5, .int (nI k))] 102 []
      exact z_vret (pc := 102) F hR dX0_subtract_102 (Nat.le_of_ble_eq_true rfl) (Nat.le_of_ble_eq_true rfl) ⟨va1, mn1, lo1, hi1, rfl, by rw [eS, List.length_eraseIdx_of_lt hkl, List.length_set], by rw [eS]; rw [List.eraseIdx_set_eq] at h99_0; exact h99_0⟩
  · replace c52 := bI_t c52
    refine z_iconst (pc := 55) (v := 1) F dX0_subtract_55 (by decide) ?_
    refine z_goto (pc := 56) (tgt := 60) F dX0_subtract_56 (by decide) ?_
    refine z_i2l (pc := 60) F dX0_subtract_60 ?_
    refine z_ladd (pc := 61) F dX0_subtract_61 ?_
    refine z_lsub (pc := 62) F dX0_subtract_62 ?_
    refine z_lastN (pc := 63) (ws' := grw E r (mgv S (nI L.length) (zb S 1) (za S 2) (zb S 3) (vp_updL (zb S 4) k ((y.2.2.2) - ((if 0 ≤ s then 0 else -1) + ((1 : Int32).toInt64)))))) (f := zb S 4) F 4 1 rfl rfl k rfl (by omega) (by decide) dX0_subtract_63 rfl ?_
    refine z_aload_n (pc := 64) F dX0_subtract_64 rfl 0 rfl ?_
    refine z_get (pc := 65) (v := .ref (r 3)) F iX0 0 rfl rfl 2 (by decide) tw_247 rfl dX0_subtract_65 ?_
    refine z_iload (pc := 68) F dX0_subtract_68 3 rfl ?_
    refine z_dup2_11 (pc := 70) F dX0_subtract_70 rfl rfl ?_
    refine z_laldN (pc := 71) (f := zb S 3) F 3 1 rfl rfl k rfl (by omega) (by decide) dX0_subtract_71 ?_
    rw [show (zb S 3 k) = y.2.2.1 from hyl]
    refine z_lload_n (pc := 72) F dX0_subtract_72 rfl 2 rfl ?_
    refine z_lsub (pc := 73) F dX0_subtract_73 ?_
    refine z_lastN (pc := 74) (ws' := grw E r (mgv S (nI L.length) (zb S 1) (za S 2) (vp_updL (zb S 3) k ((y.2.2.1) - s)) (vp_updL (zb S 4) k ((y.2.2.2) - ((if 0 ≤ s then 0 else -1) + ((1 : Int32).toInt64)))))) (f := zb S 3) F 3 1 rfl rfl k rfl (by omega) (by decide) dX0_subtract_74 rfl ?_
    refine z_aload_n (pc := 75) F dX0_subtract_75 rfl 0 rfl ?_
    refine z_get (pc := 76) (v := .ref (r 2)) F iX0 0 rfl rfl 1 (by decide) tw_246 rfl dX0_subtract_76 ?_
    refine z_iload (pc := 79) F dX0_subtract_79 3 rfl ?_
    refine z_dup2_11 (pc := 81) F dX0_subtract_81 rfl rfl ?_
    refine z_ialdN (pc := 82) (f := za S 2) F 2 0 rfl rfl k rfl (by omega) (by decide) dX0_subtract_82 ?_
    rw [show (za S 2 k) = nI (c + 1) from (by rw [hyn, hc])]
    refine z_iconst (pc := 83) (v := 1) F dX0_subtract_83 (by decide) ?_
    refine z_isub (pc := 84) F dX0_subtract_84 ?_
    rw [show ((nI (c + 1)) - 1) = nI c from (nI_pred c)]
    refine z_iastN (pc := 85) (ws' := grw E r (mgv S (nI L.length) (zb S 1) (upd (za S 2) k (nI c)) (vp_updL (zb S 3) k ((y.2.2.1) - s)) (vp_updL (zb S 4) k ((y.2.2.2) - ((if 0 ≤ s then 0 else -1) + ((1 : Int32).toInt64)))))) (f := za S 2) F 2 0 rfl rfl k rfl (by omega) (by decide) dX0_subtract_85 rfl ?_
    refine z_aload_n (pc := 86) F dX0_subtract_86 rfl 0 rfl ?_
    refine z_get (pc := 87) (v := .ref (r 2)) F iX0 0 rfl rfl 1 (by decide) tw_246 rfl dX0_subtract_87 ?_
    refine z_iload (pc := 90) F dX0_subtract_90 3 rfl ?_
    refine z_ialdN (pc := 92) (f := upd (za S 2) k (nI c)) F 2 0 rfl rfl k rfl (by omega) (by decide) dX0_subtract_92 ?_
    rw [show ((upd (za S 2) k (nI c)) k) = nI c from pk_us]
    refine z_if_ne (pc := 93) (tgt := 102) F dX0_subtract_93 (by decide) (fun c93 => ?_) (fun c93 => ?_)
    · have hcn : ¬ c = 0 := fun h => c93 (by rw [h]; rfl)
      have eS : subG k s y L = L.set k (dnG s y) := if_neg (by omega)
      exact z_vret (pc := 102) F hR dX0_subtract_102 (Nat.le_of_ble_eq_true rfl) (Nat.le_of_ble_eq_true rfl) ⟨zb S 1, upd (za S 2) k (nI c), vp_updL (zb S 3) k ((y.2.2.1) - s), vp_updL (zb S 4) k ((y.2.2.2) - ((if 0 ≤ s then 0 else -1) + ((1 : Int32).toInt64))), rfl, by rw [eS, List.length_set], by rw [eS, dnG_t hc c52]; exact hoG_set hh hy (c, y.2.1, y.2.2.1 - s, y.2.2.2 - ((if 0 ≤ s then 0 else -1) + (1 : Int32).toInt64)) rfl⟩
    · have hc0 : c = 0 := (nI_eq (a := c) (b := 0) (by omega) (by omega)).mp c93
      have eS : subG k s y L = L.eraseIdx k := if_pos (by omega)
      refine z_aload_n (pc := 96) F dX0_subtract_96 rfl 0 rfl ?_
      refine z_iload (pc := 97) F dX0_subtract_97 3 rfl ?_
      refine z_callVW (pc := 99) (q0 := 0) (ci := 0) (rest := []) F (c_X0_close l E r (mgv S (nI L.length) (zb S 1) (upd (za S 2) k (nI c)) (vp_updL (zb S 3) k ((y.2.2.1) - s)) (vp_updL (zb S 4) k ((y.2.2.2) - ((if 0 ≤ s then 0 else -1) + ((1 : Int32).toInt64))))) (L.set k (c, y.2.1, y.2.2.1 - s, y.2.2.2 - ((if 0 ≤ s then 0 else -1) + (1 : Int32).toInt64))) k (by rw [List.length_set]; exact hkl) (by rw [List.length_set]; exact hL) (by rw [List.length_set]; rfl) (hoG_set hh hy (c, y.2.1, y.2.2.1 - s, y.2.2.2 - ((if 0 ≤ s then 0 else -1) + (1 : Int32).toInt64)) rfl)) 1 ww_Groups_49 (by decide +kernel) rfl ⟨Nat.le_of_ble_eq_true rfl, Nat.le_of_ble_eq_true rfl⟩ ⟨Nat.le_of_ble_eq_true rfl, Nat.le_of_ble_eq_true rfl⟩ rfl rfl rfl rfl (Nat.le_of_ble_eq_true rfl) dX0_subtract_99 (fun v_ w1_ hp => ?_)
      obtain ⟨va1, mn1, lo1, hi1, rfl, rfl, h99_0⟩ := hp
      show Z X (0) (0) (grw E r (mgv S (nI ((L.set k (c, y.2.1, y.2.2.1 - s, y.2.2.2 - ((if 0 ≤ s then 0 else -1) + (1 : Int32).toInt64))).length - 1)) va1 mn1 lo1 hi1)) [(0, .ref (r 0)), (1, .long v), (3, .long s), (5, .int (nI k))] 102 []
      exact z_vret (pc := 102) F hR dX0_subtract_102 (Nat.le_of_ble_eq_true rfl) (Nat.le_of_ble_eq_true rfl) ⟨va1, mn1, lo1, hi1, rfl, by rw [eS, List.length_eraseIdx_of_lt hkl, List.length_set], by rw [eS]; rw [List.eraseIdx_set_eq] at h99_0; exact h99_0⟩

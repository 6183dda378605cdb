set_option maxHeartbeats 4000000 in
set_option maxRecDepth 100000 in
theorem c_X0_open (l : Launch) (E : zE) (r : Nat → Nat) (S : zS) (L : List zRow) (k : Nat) (v : Int64) (hk : k ≤ L.length) (hL : L.length < 60) (hg : zi S 0 = nI L.length) (hh : hoR L (za S 2) (zb S 1) (zb S 3) (zb S 4)) : Ct l yX0_open cX0_open 5 (none) ({ frames := 1, cells := 0, slots := 0, locals := 22 } : Room) E (grw E r S) [.ref (r 0), .int (nI k), .long v] (fun v_ w_ => ∃ va : Nat → Int64, ∃ mn : Nat → Int32, ∃ lo : Nat → Int64, ∃ hi : Nat → Int64, v_ = none ∧ w_ = grw E r (mgv S (nI (L.length + 1)) va mn lo hi) ∧ (hoR (L.take k ++ (0, v, 0, 0) :: L.drop k) mn va lo hi)) := by
  refine Ct.of (by decide) (Nat.le_of_ble_eq_true rfl) (lv := [(0, .ref (r 0)), (1, .int (nI k)), (2, .long v)]) rfl ?_
  intro X F hR
  have F : zF X l ({ frames := 1, cells := 0, slots := 0, locals := 22 } : Room) E cX0_open 5 "LiveQueries$Groups" := F
  show Z X 0 0 (grw E r (mgv S (zi S 0) (zb S 1) (za S 2) (zb S 3) (zb S 4))) [(0, .ref (r 0)), (1, .int (nI k)), (2, .long v)] 0 []
  rw [hg]
  refine z_aload_n (pc := 0) F dX0_open_0 rfl 0 rfl ?_
  refine z_get (pc := 1) (v := .int (nI L.length)) F iX0 0 rfl rfl 4 (by decide) tw_249 rfl dX0_open_1 ?_
  refine z_istore (pc := 4) (lv' := [(0, .ref (r 0)), (1, .int (nI k)), (2, .long v), (4, .int (nI L.length))]) F dX0_open_4 (by decide) [1, 2, 3, 0] rfl ?_
  have L6 : ∀ (N : Nat) (i : Nat) (va : Nat → Int64) (mn : Nat → Int32) (lo : Nat → Int64) (hi : Nat → Int64), i < N → (k ≤ i) → (i ≤ L.length) → (shR L i mn va lo hi) → Z X (0) (0) (grw E r (mgv S (nI L.length) va mn lo hi)) [(0, .ref (r 0)), (1, .int (nI k)), (2, .long v), (4, .int (nI i))] 6 [] := by
    intro N
    induction N with
    | zero => intro i va mn lo hi hN; exact absurd hN (Nat.not_lt_zero _)
    | succ N ih6 =>
      intro i va mn lo hi hN hik hil hs
      refine z_iload (pc := 6) F dX0_open_6 3 rfl ?_
      refine z_iload_n (pc := 8) F dX0_open_8 rfl 1 rfl ?_
      refine z_icmp_le (pc := 9) (tgt := 28) F dX0_open_9 (by decide) (fun c9 => ?_) (fun c9 => ?_)
      · have hie : i = k := Nat.le_antisymm (gI (by omega) (by omega) c9) hik
        subst hie
        refine z_aload_n (pc := 28) F dX0_open_28 rfl 0 rfl ?_
        refine z_get (pc := 29) (v := .ref (r 1)) F iX0 0 rfl rfl 0 (by decide) tw_245 rfl dX0_open_29 ?_
        refine z_iload_n (pc := 32) F dX0_open_32 rfl 1 rfl ?_
        refine z_lload_n (pc := 33) F dX0_open_33 rfl 2 rfl ?_
        refine z_lastN (pc := 34) (ws' := grw E r (mgv S (nI L.length) (vp_updL va i v) mn lo hi)) (f := va) F 1 1 rfl rfl i rfl (by omega) (by decide) dX0_open_34 rfl ?_
        refine z_aload_n (pc := 35) F dX0_open_35 rfl 0 rfl ?_
        refine z_get (pc := 36) (v := .ref (r 2)) F iX0 0 rfl rfl 1 (by decide) tw_246 rfl dX0_open_36 ?_
        refine z_iload_n (pc := 39) F dX0_open_39 rfl 1 rfl ?_
        refine z_iconst (pc := 40) (v := 0) F dX0_open_40 (by decide) ?_
        refine z_iastN (pc := 41) (ws' := grw E r (mgv S (nI L.length) (vp_updL va i v) (upd mn i 0) lo hi)) (f := mn) F 2 0 rfl rfl i rfl (by omega) (by decide) dX0_open_41 rfl ?_
        refine z_aload_n (pc := 42) F dX0_open_42 rfl 0 rfl ?_
        refine z_get (pc := 43) (v := .ref (r 3)) F iX0 0 rfl rfl 2 (by decide) tw_247 rfl dX0_open_43 ?_
        refine z_iload_n (pc := 46) F dX0_open_46 rfl 1 rfl ?_
        refine z_lconst (pc := 47) (v := 0) F dX0_open_47 (by decide) ?_
        refine z_lastN (pc := 48) (ws' := grw E r (mgv S (nI L.length) (vp_updL va i v) (upd mn i 0) (vp_updL lo i 0) hi)) (f := lo) F 3 1 rfl rfl i rfl (by omega) (by decide) dX0_open_48 rfl ?_
        refine z_aload_n (pc := 49) F dX0_open_49 rfl 0 rfl ?_
        refine z_get (pc := 50) (v := .ref (r 4)) F iX0 0 rfl rfl 3 (by decide) tw_248 rfl dX0_open_50 ?_
        refine z_iload_n (pc := 53) F dX0_open_53 rfl 1 rfl ?_
        refine z_lconst (pc := 54) (v := 0) F dX0_open_54 (by decide) ?_
        refine z_lastN (pc := 55) (ws' := grw E r (mgv S (nI L.length) (vp_updL va i v) (upd mn i 0) (vp_updL lo i 0) (vp_updL hi i 0))) (f := hi) F 4 1 rfl rfl i rfl (by omega) (by decide) dX0_open_55 rfl ?_
        refine z_aload_n (pc := 56) F dX0_open_56 rfl 0 rfl ?_
        refine z_dup (pc := 57) F dX0_open_57 rfl ?_
        refine z_get (pc := 58) (v := .int (nI L.length)) F iX0 0 rfl rfl 4 (by decide) tw_249 rfl dX0_open_58 ?_
        refine z_iconst (pc := 61) (v := 1) F dX0_open_61 (by decide) ?_
        refine z_iadd (pc := 62) F dX0_open_62 ?_
        rw [show ((nI L.length) + 1) = nI (L.length + 1) from (nI_1 _)]
        refine z_put (pc := 63) (ws' := grw E r (mgv S (nI (L.length + 1)) (vp_updL va i v) (upd mn i 0) (vp_updL lo i 0) (vp_updL hi i 0))) F iX0 tyX0 tyX0_ok nmX0 0 rfl rfl 4 (by decide) tw_249 rfl rfl rfl (Nat.le_of_ble_eq_true rfl) dX0_open_63 rfl ?_
        exact z_vret (pc := 66) F hR dX0_open_66 (Nat.le_of_ble_eq_true rfl) (Nat.le_of_ble_eq_true rfl) ⟨_, _, _, _, rfl, rfl, shR_put hs (by omega) (0, v, 0, 0)⟩
      · have hlt := ngI (by omega) (by omega) c9
        obtain ⟨i', rfl⟩ : ∃ i', i = i' + 1 := ⟨i - 1, by omega⟩
        refine z_aload_n (pc := 12) F dX0_open_12 rfl 0 rfl ?_
        refine z_iload (pc := 13) F dX0_open_13 3 rfl ?_
        refine z_iconst (pc := 15) (v := 1) F dX0_open_15 (by decide) ?_
        refine z_isub (pc := 16) F dX0_open_16 ?_
        rw [show ((nI (i' + 1)) - 1) = nI i' from (nI_pred i')]
        refine z_iload (pc := 17) F dX0_open_17 3 rfl ?_
        refine z_callVW (pc := 19) (q0 := 0) (ci := 0) (rest := []) F (c_X0_copy l E r (mgv S (nI L.length) va mn lo hi) i' (i' + 1) (by omega) (by omega)) 2 ww_Groups_53 (by decide +kernel) rfl ⟨Nat.le_of_ble_eq_true rfl, Nat.le_of_ble_eq_true rfl⟩ ⟨Nat.le_of_ble_eq_true rfl, Nat.le_of_ble_eq_true rfl⟩ rfl rfl rfl rfl (Nat.le_of_ble_eq_true rfl) dX0_open_19 (fun v_ w1_ hp => ?_)
        obtain ⟨rfl, rfl⟩ := hp
        show Z X (0) (0) (grw E r (mgv S (nI L.length) (vp_updL va (i' + 1) (zb (mgv S (nI L.length) va mn lo hi) 1 i')) (upd mn (i' + 1) (za (mgv S (nI L.length) va mn lo hi) 2 i')) (vp_updL lo (i' + 1) (zb (mgv S (nI L.length) va mn lo hi) 3 i')) (vp_updL hi (i' + 1) (zb (mgv S (nI L.length) va mn lo hi) 4 i')))) [(0, .ref (r 0)), (1, .int (nI k)), (2, .long v), (4, .int (nI (i' + 1)))] 22 []
        refine z_iinc (pc := 22) (v := nI i') (lv' := [(0, .ref (r 0)), (1, .int (nI k)), (2, .long v), (4, .int (nI i'))]) F (j := 3) dX0_open_22 rfl (i_m1 i') (by decide) [1, 2, 3, 0] rfl ?_
        refine z_goto (pc := 25) (tgt := 6) F dX0_open_25 (by decide) ?_
        exact ih6 i' (vp_updL va (i' + 1) (va i')) (upd mn (i' + 1) (mn i')) (vp_updL lo (i' + 1) (lo i')) (vp_updL hi (i' + 1) (hi i')) (by omega) (by omega) (by omega) (shR_s hs)
  exact L6 _ L.length (zb S 1) (za S 2) (zb S 3) (zb S 4) (Nat.lt_succ_self _) hk (Nat.le_refl _) (shR_0 hh)
set_option maxHeartbeats 4000000 in
set_option maxRecDepth 100000 in
theorem c_X0_close (l : Launch) (E : zE) (r : Nat → Nat) (S : zS) (L : List zRow) (k : Nat) (hk : k < L.length) (hL : L.length ≤ 60) (hg : zi S 0 = nI L.length) (hh : hoR L (za S 2) (zb S 1) (zb S 3) (zb S 4)) : Ct l yX0_close cX0_close 3 (none) ({ frames := 1, cells := 0, slots := 0, locals := 22 } : Room) E (grw E r S) [.ref (r 0), .int (nI k)] (fun v_ w_ => ∃ va : Nat → Int64, ∃ mn : Nat → Int32, ∃ lo : Nat → Int64, ∃ hi : Nat → Int64, v_ = none ∧ w_ = grw E r (mgv S (nI (L.length - 1)) va mn lo hi) ∧ (hoR (L.eraseIdx k) mn va lo hi)) := by
  refine Ct.of (by decide) (Nat.le_of_ble_eq_true rfl) (lv := [(0, .ref (r 0)), (1, .int (nI k))]) rfl ?_
  intro X F hR
  have F : zF X l ({ frames := 1, cells := 0, slots := 0, locals := 22 } : Room) E cX0_close 3 "LiveQueries$Groups" := F
  show Z X 0 0 (grw E r (mgv S (zi S 0) (zb S 1) (za S 2) (zb S 3) (zb S 4))) [(0, .ref (r 0)), (1, .int (nI k))] 0 []
  rw [hg]
  refine z_iload_n (pc := 0) F dX0_close_0 rfl 1 rfl ?_
  refine z_iconst (pc := 1) (v := 1) F dX0_close_1 (by decide) ?_
  refine z_iadd (pc := 2) F dX0_close_2 ?_
  rw [show ((nI k) + 1) = nI (k + 1) from (nI_1 _)]
  refine z_istore_n (pc := 3) (lv' := [(0, .ref (r 0)), (1, .int (nI k)), (2, .int (nI (k + 1)))]) F dX0_close_3 rfl (by decide) [1, 2, 0] rfl ?_
  have L4 : ∀ (N : Nat) (i : Nat) (va : Nat → Int64) (mn : Nat → Int32) (lo : Nat → Int64) (hi : Nat → Int64), (L.length - i) < N → (k ≤ i) → (i < L.length) → (dnR L k i mn va lo hi) → Z X (0) (0) (grw E r (mgv S (nI L.length) va mn lo hi)) [(0, .ref (r 0)), (1, .int (nI k)), (2, .int (nI (i + 1)))] 4 [] := by
    intro N
    induction N with
    | zero => intro i va mn lo hi hN; exact absurd hN (Nat.not_lt_zero _)
    | succ N ih4 =>
      intro i va mn lo hi hN hik hil hs
      refine z_iload_n (pc := 4) F dX0_close_4 rfl 2 rfl ?_
      refine z_aload_n (pc := 5) F dX0_close_5 rfl 0 rfl ?_
      refine z_get (pc := 6) (v := .int (nI L.length)) F iX0 0 rfl rfl 4 (by decide) tw_249 rfl dX0_close_6 ?_
      refine z_icmp_ge (pc := 9) (tgt := 26) F dX0_close_9 (by decide) (fun c9 => ?_) (fun c9 => ?_)
      · have hie : i + 1 = L.length := Nat.le_antisymm hil (gI (by omega) (by omega) c9)
        refine z_aload_n (pc := 26) F dX0_close_26 rfl 0 rfl ?_
        refine z_dup (pc := 27) F dX0_close_27 rfl ?_
        refine z_get (pc := 28) (v := .int (nI L.length)) F iX0 0 rfl rfl 4 (by decide) tw_249 rfl dX0_close_28 ?_
        refine z_iconst (pc := 31) (v := 1) F dX0_close_31 (by decide) ?_
        refine z_isub (pc := 32) F dX0_close_32 ?_
        rw [show ((nI L.length) - 1) = nI (L.length - 1) from (by rw [← hie]; exact nI_pred i)]
        refine z_put (pc := 33) (ws' := grw E r (mgv S (nI (L.length - 1)) va mn lo hi)) F iX0 tyX0 tyX0_ok nmX0 0 rfl rfl 4 (by decide) tw_249 rfl rfl rfl (Nat.le_of_ble_eq_true rfl) dX0_close_33 rfl ?_
        exact z_vret (pc := 36) F hR dX0_close_36 (Nat.le_of_ble_eq_true rfl) (Nat.le_of_ble_eq_true rfl) ⟨_, _, _, _, rfl, rfl, dnR_e hs hie⟩
      · have hlt := ngI (by omega) (by omega) c9
        refine z_aload_n (pc := 12) F dX0_close_12 rfl 0 rfl ?_
        refine z_iload_n (pc := 13) F dX0_close_13 rfl 2 rfl ?_
        refine z_iload_n (pc := 14) F dX0_close_14 rfl 2 rfl ?_
        refine z_iconst (pc := 15) (v := 1) F dX0_close_15 (by decide) ?_
        refine z_isub (pc := 16) F dX0_close_16 ?_
        rw [show ((nI (i + 1)) - 1) = nI i from (nI_pred i)]
        refine z_callVW (pc := 17) (q0 := 0) (ci := 0) (rest := []) F (c_X0_copy l E r (mgv S (nI L.length) va mn lo hi) (i + 1) i (by omega) (by omega)) 2 ww_Groups_53 (by decide +kernel) rfl ⟨Nat.le_of_ble_eq_true rfl, Nat.le_of_ble_eq_true rfl⟩ ⟨Nat.le_of_ble_eq_true rfl, Nat.le_of_ble_eq_true rfl⟩ rfl rfl rfl rfl (Nat.le_of_ble_eq_true rfl) dX0_close_17 (fun v_ w1_ hp => ?_)
        obtain ⟨rfl, rfl⟩ := hp
        show Z X (0) (0) (grw E r (mgv S (nI L.length) (vp_updL va i (zb (mgv S (nI L.length) va mn lo hi) 1 (i + 1))) (upd mn i (za (mgv S (nI L.length) va mn lo hi) 2 (i + 1))) (vp_updL lo i (zb (mgv S (nI L.length) va mn lo hi) 3 (i + 1))) (vp_updL hi i (zb (mgv S (nI L.length) va mn lo hi) 4 (i + 1))))) [(0, .ref (r 0)), (1, .int (nI k)), (2, .int (nI (i + 1)))] 20 []
        refine z_iinc (pc := 20) (v := nI (i + 1 + 1)) (lv' := [(0, .ref (r 0)), (1, .int (nI k)), (2, .int (nI (i + 1 + 1)))]) F (j := 2) dX0_close_20 rfl (nI_1 _) (by decide) [1, 2, 0] rfl ?_
        refine z_goto (pc := 23) (tgt := 4) F dX0_close_23 (by decide) ?_
        exact ih4 (i + 1) (vp_updL va i (va (i + 1))) (upd mn i (mn (i + 1))) (vp_updL lo i (lo (i + 1))) (vp_updL hi i (hi (i + 1))) (by omega) (by omega) (by omega) (dnR_s hs hik)
  exact L4 _ k (zb S 1) (za S 2) (zb S 3) (zb S 4) (Nat.lt_succ_self _) (Nat.le_refl _) hk (dnR_0 hh)
set_option maxHeartbeats 4000000 in
set_option maxRecDepth 100000 in
theorem c_X0_signOf (l : Launch) (E : zE) (a : Int64) : Ct l yX0_signOf cX0_signOf 2 (some .long) ({ frames := 0, cells := 0, slots := 0, locals := 0 } : Room) E ([]) [.long a] (fun v_ w_ => v_ = some (.long (if 0 ≤ a then 0 else -1)) ∧ w_ = []) := by
  refine Ct.of (by decide) (Nat.le_of_ble_eq_true rfl) (lv := [(0, .long a)]) rfl ?_
  intro X F hR
  have F : zF X l ({ frames := 0, cells := 0, slots := 0, locals := 0 } : Room) E cX0_signOf 2 "LiveQueries$Groups" := F
  refine z_lload_n (pc := 0) F dX0_signOf_0 rfl 0 rfl ?_
  refine z_lconst (pc := 1) (v := 0) F dX0_signOf_1 (by decide) ?_
  refine z_l_ge (pc := 2) (tgt := 12) F dX0_signOf_2 dX0_signOf_3 (by decide) (fun c2 => ?_) (fun c2 => ?_)
  · refine z_lconst (pc := 12) (v := 0) F dX0_signOf_12 (by decide) ?_
    exact z_lret (pc := 13) F hR dX0_signOf_13 (Nat.le_of_ble_eq_true rfl) (Nat.le_of_ble_eq_true rfl) ⟨by rw [if_pos c2], rfl⟩
  · refine z_ldc2 (pc := 6) F dX0_signOf_6 tw_369 ?_
    refine z_goto (pc := 9) (tgt := 13) F dX0_signOf_9 (by decide) ?_
    exact z_lret (pc := 13) F hR dX0_signOf_13 (Nat.le_of_ble_eq_true rfl) (Nat.le_of_ble_eq_true rfl) ⟨by rw [if_neg c2], rfl⟩
set_option maxHeartbeats 4000000 in
set_option maxRecDepth 100000 in
theorem c_X0_isLessUnsigned (l : Launch) (E : zE) (x : Int64) (y : Int64) : Ct l yX0_isLessUnsigned cX0_isLessUnsigned 4 (some .boolean) ({ frames := 0, cells := 0, slots := 0, locals := 0 } : Room) E ([]) [.long x, .long y] (fun v_ w_ => v_ = some (.int (bI (ltU x y))) ∧ w_ = []) := by
  refine Ct.of (by decide) (Nat.le_of_ble_eq_true rfl) (lv := [(0, .long x), (2, .long y)]) rfl ?_
  intro X F hR
  have F : zF X l ({ frames := 0, cells := 0, slots := 0, locals := 0 } : Room) E cX0_isLessUnsigned 4 "LiveQueries$Groups" := F
  refine z_lload_n (pc := 0) F dX0_isLessUnsigned_0 rfl 0 rfl ?_
  refine z_ldc2 (pc := 1) F dX0_isLessUnsigned_1 tw_373 ?_
  refine z_lxor (pc := 4) F dX0_isLessUnsigned_4 ?_
  refine z_lload_n (pc := 5) F dX0_isLessUnsigned_5 rfl 1 rfl ?_
  refine z_ldc2 (pc := 6) F dX0_isLessUnsigned_6 tw_373 ?_
  refine z_lxor (pc := 9) F dX0_isLessUnsigned_9 ?_
  refine z_l_ge (pc := 10) (tgt := 18) F dX0_isLessUnsigned_10 dX0_isLessUnsigned_11 (by decide) (fun c10 => ?_) (fun c10 => ?_)
  · refine z_iconst (pc := 18) (v := 0) F dX0_isLessUnsigned_18 (by decide) ?_
    exact z_zret (pc := 19) F hR rfl dX0_isLessUnsigned_19 (Nat.le_of_ble_eq_true rfl) (Nat.le_of_ble_eq_true rfl) ⟨by rw [ltU_f c10]; rfl, rfl⟩
  · refine z_iconst (pc := 14) (v := 1) F dX0_isLessUnsigned_14 (by decide) ?_
    refine z_goto (pc := 15) (tgt := 19) F dX0_isLessUnsigned_15 (by decide) ?_
    exact z_zret (pc := 19) F hR rfl dX0_isLessUnsigned_19 (Nat.le_of_ble_eq_true rfl) (Nat.le_of_ble_eq_true rfl) ⟨by rw [ltU_t c10]; rfl, rfl⟩

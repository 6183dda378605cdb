set_option maxHeartbeats 4000000 in
set_option maxRecDepth 100000 in
theorem c_X8_openGroup (l : Launch) (E : zE) (r : Nat → Nat) (S : zS) (k : Nat) (v : Int64) (L : List zRow) (hk : k ≤ L.length) (hL : L.length < 60) (hg : zi S 8 = nI L.length) (hh : hoR L (za S 23) (zb S 22) (zb S 24) (zb S 25)) : Ct l yX8_openGroup cX8_openGroup 5 (none) ({ frames := 0, cells := 0, slots := 0, locals := 0 } : Room) E (mw E r S) [.ref (r 0), .int (nI k), .long v] (fun v_ w_ => ∃ va : Nat → Int64, ∃ mn : Nat → Int32, ∃ lo : Nat → Int64, ∃ hi : Nat → Int64, v_ = none ∧ w_ = mw E r (mgp S (nI (L.length + 1)) va mn lo hi) ∧ (hoR (L.take k ++ (0, v, 0, 0) :: L.drop k) mn va lo hi)) := by
  refine Ct.of (by decide) (Nat.le_of_ble_eq_true rfl) (lv := [(0, .ref (r 0)), (1, .int (nI k)), (2, .long v)]) rfl ?_
  intro X F hR
  have F : zF X l ({ frames := 0, cells := 0, slots := 0, locals := 0 } : Room) E cX8_openGroup 5 "LiveQueriesModel" := F
  show Z X 0 0 (mw E r (mgp S (zi S 8) (zb S 22) (za S 23) (zb S 24) (zb S 25))) [(0, .ref (r 0)), (1, .int (nI k)), (2, .long v)] 0 []
  rw [hg]
  refine z_aload_n (pc := 0) F dX8_openGroup_0 rfl 0 rfl ?_
  refine z_get (pc := 1) (v := .int (nI L.length)) F iX8 0 rfl rfl 29 (by decide) tw_887 rfl dX8_openGroup_1 ?_
  refine z_istore (pc := 4) (lv' := [(0, .ref (r 0)), (1, .int (nI k)), (2, .long v), (4, .int (nI L.length))]) F dX8_openGroup_4 (by decide) [1, 2, 3, 0] rfl ?_
  have L6 : ∀ (N : Nat) (i : Nat) (va : Nat → Int64) (mn : Nat → Int32) (lo : Nat → Int64) (hi : Nat → Int64), i < N → (k ≤ i) → (i ≤ L.length) → (shR L i mn va lo hi) → Z X (0) (0) (mw E r (mgp S (nI L.length) va mn lo hi)) [(0, .ref (r 0)), (1, .int (nI k)), (2, .long v), (4, .int (nI i))] 6 [] := by
    intro N
    induction N with
    | zero => intro i va mn lo hi hN; exact absurd hN (Nat.not_lt_zero _)
    | succ N ih6 =>
      intro i va mn lo hi hN hik hil hs
      refine z_iload (pc := 6) F dX8_openGroup_6 3 rfl ?_
      refine z_iload_n (pc := 8) F dX8_openGroup_8 rfl 1 rfl ?_
      refine z_icmp_le (pc := 9) (tgt := 82) F dX8_openGroup_9 (by decide) (fun c9 => ?_) (fun c9 => ?_)
      · have hie : i = k := Nat.le_antisymm (gI (by omega) (by omega) c9) hik
        subst hie
        refine z_aload_n (pc := 82) F dX8_openGroup_82 rfl 0 rfl ?_
        refine z_get (pc := 83) (v := .ref (r 22)) F iX8 0 rfl rfl 30 (by decide) tw_888 rfl dX8_openGroup_83 ?_
        refine z_iload_n (pc := 86) F dX8_openGroup_86 rfl 1 rfl ?_
        refine z_lload_n (pc := 87) F dX8_openGroup_87 rfl 2 rfl ?_
        refine z_lastN (pc := 88) (ws' := mw E r (mgp S (nI L.length) (vp_updL va i v) mn lo hi)) (f := va) F 22 1 rfl rfl i rfl (by omega) (by decide) dX8_openGroup_88 rfl ?_
        refine z_aload_n (pc := 89) F dX8_openGroup_89 rfl 0 rfl ?_
        refine z_get (pc := 90) (v := .ref (r 23)) F iX8 0 rfl rfl 31 (by decide) tw_889 rfl dX8_openGroup_90 ?_
        refine z_iload_n (pc := 93) F dX8_openGroup_93 rfl 1 rfl ?_
        refine z_iconst (pc := 94) (v := 0) F dX8_openGroup_94 (by decide) ?_
        refine z_iastN (pc := 95) (ws' := mw E r (mgp S (nI L.length) (vp_updL va i v) (upd mn i 0) lo hi)) (f := mn) F 23 0 rfl rfl i rfl (by omega) (by decide) dX8_openGroup_95 rfl ?_
        refine z_aload_n (pc := 96) F dX8_openGroup_96 rfl 0 rfl ?_
        refine z_get (pc := 97) (v := .ref (r 24)) F iX8 0 rfl rfl 32 (by decide) tw_890 rfl dX8_openGroup_97 ?_
        refine z_iload_n (pc := 100) F dX8_openGroup_100 rfl 1 rfl ?_
        refine z_lconst (pc := 101) (v := 0) F dX8_openGroup_101 (by decide) ?_
        refine z_lastN (pc := 102) (ws' := mw E r (mgp S (nI L.length) (vp_updL va i v) (upd mn i 0) (vp_updL lo i 0) hi)) (f := lo) F 24 1 rfl rfl i rfl (by omega) (by decide) dX8_openGroup_102 rfl ?_
        refine z_aload_n (pc := 103) F dX8_openGroup_103 rfl 0 rfl ?_
        refine z_get (pc := 104) (v := .ref (r 25)) F iX8 0 rfl rfl 33 (by decide) tw_891 rfl dX8_openGroup_104 ?_
        refine z_iload_n (pc := 107) F dX8_openGroup_107 rfl 1 rfl ?_
        refine z_lconst (pc := 108) (v := 0) F dX8_openGroup_108 (by decide) ?_
        refine z_lastN (pc := 109) (ws' := mw E r (mgp S (nI L.length) (vp_updL va i v) (upd mn i 0) (vp_updL lo i 0) (vp_updL hi i 0))) (f := hi) F 25 1 rfl rfl i rfl (by omega) (by decide) dX8_openGroup_109 rfl ?_
        refine z_aload_n (pc := 110) F dX8_openGroup_110 rfl 0 rfl ?_
        refine z_dup (pc := 111) F dX8_openGroup_111 rfl ?_
        refine z_get (pc := 112) (v := .int (nI L.length)) F iX8 0 rfl rfl 29 (by decide) tw_887 rfl dX8_openGroup_112 ?_
        refine z_iconst (pc := 115) (v := 1) F dX8_openGroup_115 (by decide) ?_
        refine z_iadd (pc := 116) F dX8_openGroup_116 ?_
        rw [show ((nI L.length) + 1) = nI (L.length + 1) from (nI_1 _)]
        refine z_put (pc := 117) (ws' := mw E r (mgp S (nI (L.length + 1)) (vp_updL va i v) (upd mn i 0) (vp_updL lo i 0) (vp_updL hi i 0))) F iX8 tyX8 tyX8_ok nmX8 0 rfl rfl 29 (by decide) tw_887 rfl rfl rfl (Nat.le_of_ble_eq_true rfl) dX8_openGroup_117 rfl ?_
        exact z_vret (pc := 120) F hR dX8_openGroup_120 (Nat.le_of_ble_eq_true rfl) (Nat.le_of_ble_eq_true rfl) ⟨_, _, _, _, rfl, rfl, shR_put hs (by omega) (0, v, 0, 0)⟩
      · have hlt := ngI (by omega) (by omega) c9
        obtain ⟨i', rfl⟩ : ∃ i', i = i' + 1 := ⟨i - 1, by omega⟩
        refine z_aload_n (pc := 12) F dX8_openGroup_12 rfl 0 rfl ?_
        refine z_get (pc := 13) (v := .ref (r 22)) F iX8 0 rfl rfl 30 (by decide) tw_888 rfl dX8_openGroup_13 ?_
        refine z_iload (pc := 16) F dX8_openGroup_16 3 rfl ?_
        refine z_aload_n (pc := 18) F dX8_openGroup_18 rfl 0 rfl ?_
        refine z_get (pc := 19) (v := .ref (r 22)) F iX8 0 rfl rfl 30 (by decide) tw_888 rfl dX8_openGroup_19 ?_
        refine z_iload (pc := 22) F dX8_openGroup_22 3 rfl ?_
        refine z_iconst (pc := 24) (v := 1) F dX8_openGroup_24 (by decide) ?_
        refine z_isub (pc := 25) F dX8_openGroup_25 ?_
        rw [show ((nI (i' + 1)) - 1) = nI i' from (nI_pred i')]
        refine z_laldN (pc := 26) (f := va) F 22 1 rfl rfl i' rfl (by omega) (by decide) dX8_openGroup_26 ?_
        refine z_lastN (pc := 27) (ws' := mw E r (mgp S (nI L.length) (vp_updL va (i' + 1) ((va) i')) mn lo hi)) (f := va) F 22 1 rfl rfl (i' + 1) rfl (by omega) (by decide) dX8_openGroup_27 rfl ?_
        refine z_aload_n (pc := 28) F dX8_openGroup_28 rfl 0 rfl ?_
        refine z_get (pc := 29) (v := .ref (r 23)) F iX8 0 rfl rfl 31 (by decide) tw_889 rfl dX8_openGroup_29 ?_
        refine z_iload (pc := 32) F dX8_openGroup_32 3 rfl ?_
        refine z_aload_n (pc := 34) F dX8_openGroup_34 rfl 0 rfl ?_
        refine z_get (pc := 35) (v := .ref (r 23)) F iX8 0 rfl rfl 31 (by decide) tw_889 rfl dX8_openGroup_35 ?_
        refine z_iload (pc := 38) F dX8_openGroup_38 3 rfl ?_
        refine z_iconst (pc := 40) (v := 1) F dX8_openGroup_40 (by decide) ?_
        refine z_isub (pc := 41) F dX8_openGroup_41 ?_
        rw [show ((nI (i' + 1)) - 1) = nI i' from (nI_pred i')]
        refine z_ialdN (pc := 42) (f := mn) F 23 0 rfl rfl i' rfl (by omega) (by decide) dX8_openGroup_42 ?_
        refine z_iastN (pc := 43) (ws' := mw E r (mgp S (nI L.length) (vp_updL va (i' + 1) ((va) i')) (upd mn (i' + 1) ((mn) i')) lo hi)) (f := mn) F 23 0 rfl rfl (i' + 1) rfl (by omega) (by decide) dX8_openGroup_43 rfl ?_
        refine z_aload_n (pc := 44) F dX8_openGroup_44 rfl 0 rfl ?_
        refine z_get (pc := 45) (v := .ref (r 24)) F iX8 0 rfl rfl 32 (by decide) tw_890 rfl dX8_openGroup_45 ?_
        refine z_iload (pc := 48) F dX8_openGroup_48 3 rfl ?_
        refine z_aload_n (pc := 50) F dX8_openGroup_50 rfl 0 rfl ?_
        refine z_get (pc := 51) (v := .ref (r 24)) F iX8 0 rfl rfl 32 (by decide) tw_890 rfl dX8_openGroup_51 ?_
        refine z_iload (pc := 54) F dX8_openGroup_54 3 rfl ?_
        refine z_iconst (pc := 56) (v := 1) F dX8_openGroup_56 (by decide) ?_
        refine z_isub (pc := 57) F dX8_openGroup_57 ?_
        rw [show ((nI (i' + 1)) - 1) = nI i' from (nI_pred i')]
        refine z_laldN (pc := 58) (f := lo) F 24 1 rfl rfl i' rfl (by omega) (by decide) dX8_openGroup_58 ?_
        refine z_lastN (pc := 59) (ws' := mw E r (mgp S (nI L.length) (vp_updL va (i' + 1) ((va) i')) (upd mn (i' + 1) ((mn) i')) (vp_updL lo (i' + 1) ((lo) i')) hi)) (f := lo) F 24 1 rfl rfl (i' + 1) rfl (by omega) (by decide) dX8_openGroup_59 rfl ?_
        refine z_aload_n (pc := 60) F dX8_openGroup_60 rfl 0 rfl ?_
        refine z_get (pc := 61) (v := .ref (r 25)) F iX8 0 rfl rfl 33 (by decide) tw_891 rfl dX8_openGroup_61 ?_
        refine z_iload (pc := 64) F dX8_openGroup_64 3 rfl ?_
        refine z_aload_n (pc := 66) F dX8_openGroup_66 rfl 0 rfl ?_
        refine z_get (pc := 67) (v := .ref (r 25)) F iX8 0 rfl rfl 33 (by decide) tw_891 rfl dX8_openGroup_67 ?_
        refine z_iload (pc := 70) F dX8_openGroup_70 3 rfl ?_
        refine z_iconst (pc := 72) (v := 1) F dX8_openGroup_72 (by decide) ?_
        refine z_isub (pc := 73) F dX8_openGroup_73 ?_
        rw [show ((nI (i' + 1)) - 1) = nI i' from (nI_pred i')]
        refine z_laldN (pc := 74) (f := hi) F 25 1 rfl rfl i' rfl (by omega) (by decide) dX8_openGroup_74 ?_
        refine z_lastN (pc := 75) (ws' := mw E r (mgp S (nI L.length) (vp_updL va (i' + 1) ((va) i')) (upd mn (i' + 1) ((mn) i')) (vp_updL lo (i' + 1) ((lo) i')) (vp_updL hi (i' + 1) ((hi) i')))) (f := hi) F 25 1 rfl rfl (i' + 1) rfl (by omega) (by decide) dX8_openGroup_75 rfl ?_
        refine z_iinc (pc := 76) (v := nI i') (lv' := [(0, .ref (r 0)), (1, .int (nI k)), (2, .long v), (4, .int (nI i'))]) F (j := 3) dX8_openGroup_76 rfl (i_m1 i') (by decide) [1, 2, 3, 0] rfl ?_
        refine z_goto (pc := 79) (tgt := 6) F dX8_openGroup_79 (by decide) ?_
        exact ih6 i' _ _ _ _ (by omega) (by omega) (by omega) (shR_s hs)
  exact L6 _ L.length (zb S 22) (za S 23) (zb S 24) (zb S 25) (Nat.lt_succ_self _) hk (Nat.le_refl _) (shR_0 hh)
set_option maxHeartbeats 4000000 in
set_option maxRecDepth 100000 in
theorem c_X8_findGroups (l : Launch) (E : zE) (r : Nat → Nat) (S : zS) (q : Nat) (e : Nat → Nat) (m : Nat) (hq : q < 6) (hm : m ≤ 60) (hmo : zi S 2 = nI m) (hqo : qok S q e) (ho : objOk S) : Ct l yX8_findGroups cX8_findGroups 7 (none) ({ frames := 5, cells := 0, slots := 0, locals := 145 } : Room) E (mw E r S) [.ref (r 0), .int (nI q)] (fun v_ w_ => ∃ hh : Int32, ∃ ab : Int32, ∃ f : Nat → Int64, ∃ hg : Nat → Int32, ∃ md : Nat → Int64, ∃ row : Nat → Int32, ∃ key : Nat → Int64, ∃ grp : Nat → Int64, ∃ sm : Nat → Int64, ∃ va : Nat → Int64, ∃ mn : Nat → Int32, ∃ lo : Nat → Int64, ∃ hi : Nat → Int64, v_ = none ∧ w_ = mw E r (mfg S hh ab f hg md (nI (fL S q e m).length) row key grp sm (nI (gL (fL S q e m)).length) va mn lo hi) ∧ (hoR (fL S q e m) row key grp sm) ∧ (hoR (gL (fL S q e m)) mn va lo hi)) := by
  refine Ct.of (by decide) (Nat.le_of_ble_eq_true rfl) (lv := [(0, .ref (r 0)), (1, .int (nI q))]) rfl ?_
  intro X F hR
  have F : zF X l ({ frames := 5, cells := 0, slots := 0, locals := 145 } : Room) E cX8_findGroups 7 "LiveQueriesModel" := F
  show Z X 0 0 (mw E r (mfg S (zi S 5) (zi S 6) (zb S 15) (za S 16) (zb S 17) (zi S 7) (za S 18) (zb S 19) (zb S 20) (zb S 21) (zi S 8) (zb S 22) (za S 23) (zb S 24) (zb S 25))) [(0, .ref (r 0)), (1, .int (nI q))] 0 []
  refine z_aload_n (pc := 0) F dX8_findGroups_0 rfl 0 rfl ?_
  refine z_iload_n (pc := 1) F dX8_findGroups_1 rfl 1 rfl ?_
  refine z_callVW (pc := 2) (q0 := 0) (ci := 8) (rest := []) F (c_X8_find2 l E r (mfg S (zi S 5) (zi S 6) (zb S 15) (za S 16) (zb S 17) (zi S 7) (za S 18) (zb S 19) (zb S 20) (zb S 21) (zi S 8) (zb S 22) (za S 23) (zb S 24) (zb S 25)) q e m hq hm hmo (qok_of (S := S) (S' := (mfg S (zi S 5) (zi S 6) (zb S 15) (za S 16) (zb S 17) (zi S 7) (za S 18) (zb S 19) (zb S 20) (zb S 21) (zi S 8) (zb S 22) (za S 23) (zb S 24) (zb S 25))) rfl rfl hqo) ho) 1 ww_Model_137 (by decide +kernel) rfl ⟨Nat.le_of_ble_eq_true rfl, Nat.le_of_ble_eq_true rfl⟩ ⟨Nat.le_of_ble_eq_true rfl, Nat.le_of_ble_eq_true rfl⟩ rfl rfl rfl rfl (Nat.le_of_ble_eq_true rfl) dX8_findGroups_2 (fun v_ w1_ hp => ?_)
  obtain ⟨hh1, ab1, f1, hg1, md1, row1, key1, grp1, sm1, rfl, rfl, h2_0⟩ := hp
  show Z X (0) (0) (mw E r (mfg S hh1 ab1 f1 hg1 md1 (nI (fL S q e m).length) row1 key1 grp1 sm1 (zi S 8) (zb S 22) (za S 23) (zb S 24) (zb S 25))) [(0, .ref (r 0)), (1, .int (nI q))] 5 []
  have hho : hoR (fL S q e m) row1 key1 grp1 sm1 := h2_0
  have hfl := fL_len S q e m
  refine z_aload_n (pc := 5) F dX8_findGroups_5 rfl 0 rfl ?_
  refine z_iconst (pc := 6) (v := 0) F dX8_findGroups_6 (by decide) ?_
  refine z_put (pc := 7) (ws' := mw E r (mfg S hh1 ab1 f1 hg1 md1 (nI (fL S q e m).length) row1 key1 grp1 sm1 0 (zb S 22) (za S 23) (zb S 24) (zb S 25))) F iX8 tyX8 tyX8_ok nmX8 0 rfl rfl 29 (by decide) tw_887 rfl rfl rfl (Nat.le_of_ble_eq_true rfl) dX8_findGroups_7 rfl ?_
  refine z_iconst (pc := 10) (v := 0) F dX8_findGroups_10 (by decide) ?_
  refine z_istore_n (pc := 11) (lv' := [(0, .ref (r 0)), (1, .int (nI q)), (2, .int 0)]) F dX8_findGroups_11 rfl (by decide) [1, 2, 0] rfl ?_
  have L12 : ∀ (N : Nat) (i : Nat) (va : Nat → Int64) (mn : Nat → Int32) (lo : Nat → Int64) (hi : Nat → Int64), ((fL S q e m).length - i) < N → (i ≤ (fL S q e m).length) → (hoR (gl (fL S q e m) i) mn va lo hi) → Z X (0) (0) (mw E r (mfg S hh1 ab1 f1 hg1 md1 (nI (fL S q e m).length) row1 key1 grp1 sm1 (nI (gl (fL S q e m) i).length) va mn lo hi)) [(0, .ref (r 0)), (1, .int (nI q)), (2, .int (nI i))] 12 [] := by
    intro N
    induction N with
    | zero => intro i va mn lo hi hN; exact absurd hN (Nat.not_lt_zero _)
    | succ N ih12 =>
      intro i va mn lo hi hN hi_ hG
      refine z_iload_n (pc := 12) F dX8_findGroups_12 rfl 2 rfl ?_
      refine z_aload_n (pc := 13) F dX8_findGroups_13 rfl 0 rfl ?_
      refine z_get (pc := 14) (v := .int (nI (fL S q e m).length)) F iX8 0 rfl rfl 24 (by decide) tw_882 rfl dX8_findGroups_14 ?_
      refine z_icmp_ge (pc := 17) (tgt := 206) F dX8_findGroups_17 (by decide) (fun c17 => ?_) (fun c17 => ?_)
      · have hie : i = (fL S q e m).length := Nat.le_antisymm hi_ (gI (by omega) (by omega) c17)
        subst hie
        exact z_vret (pc := 206) F hR dX8_findGroups_206 (Nat.le_of_ble_eq_true rfl) (Nat.le_of_ble_eq_true rfl) ⟨hh1, ab1, f1, hg1, md1, row1, key1, grp1, sm1, va, mn, lo, hi, rfl, rfl, hho, hG⟩
      · have hil := ngI (by omega) (by omega) c17
        obtain ⟨x, hx⟩ : ∃ x, (fL S q e m)[i]? = some x := ⟨_, List.getElem?_eq_getElem (by omega)⟩
        obtain ⟨-, -, hgx, hsx⟩ := hho i x hx
        have hgl := gl_len (fL S q e m) i
        refine z_iconst (pc := 20) (v := 0) F dX8_findGroups_20 (by decide) ?_
        refine z_istore_n (pc := 21) (lv' := [(0, .ref (r 0)), (1, .int (nI q)), (2, .int (nI i)), (3, .int 0)]) F dX8_findGroups_21 rfl (by decide) [1, 2, 3, 0] rfl ?_
        have L22 : ∀ (N : Nat) (k : Nat), ((gl (fL S q e m) i).length - k) < N → (k ≤ (gl (fL S q e m) i).length) → (∀ j y, (gl (fL S q e m) i)[j]? = some y → j < k → y.2.1 < x.2.2.1) → Z X (0) (0) (mw E r (mfg S hh1 ab1 f1 hg1 md1 (nI (fL S q e m).length) row1 key1 grp1 sm1 (nI (gl (fL S q e m) i).length) va mn lo hi)) [(0, .ref (r 0)), (1, .int (nI q)), (2, .int (nI i)), (3, .int (nI k))] 22 [] := by
          intro N
          induction N with
          | zero => intro k hN; exact absurd hN (Nat.not_lt_zero _)
          | succ N ih22 =>
            intro k hN hk hlt
            refine z_iload_n (pc := 22) F dX8_findGroups_22 rfl 3 rfl ?_
            refine z_aload_n (pc := 23) F dX8_findGroups_23 rfl 0 rfl ?_
            refine z_get (pc := 24) (v := .int (nI (gl (fL S q e m) i).length)) F iX8 0 rfl rfl 29 (by decide) tw_887 rfl dX8_findGroups_24 ?_
            refine z_icmp_ge (pc := 27) (tgt := 52) F dX8_findGroups_27 (by decide) (fun c27 => ?_) (fun c27 => ?_)
            · have hkl : k = (gl (fL S q e m) i).length := Nat.le_antisymm hk (gI (by omega) (by omega) c27)
              refine z_iload_n (pc := 52) F dX8_findGroups_52 rfl 3 rfl ?_
              refine z_aload_n (pc := 53) F dX8_findGroups_53 rfl 0 rfl ?_
              refine z_get (pc := 54) (v := .int (nI (gl (fL S q e m) i).length)) F iX8 0 rfl rfl 29 (by decide) tw_887 rfl dX8_findGroups_54 ?_
              refine z_icmp_eq (pc := 57) (tgt := 76) F dX8_findGroups_57 (by decide) (fun c57 => ?_) (fun c57 => absurd (by rw [hkl]) c57)
              refine z_aload_n (pc := 76) F dX8_findGroups_76 rfl 0 rfl ?_
              refine z_iload_n (pc := 77) F dX8_findGroups_77 rfl 3 rfl ?_
              refine z_aload_n (pc := 78) F dX8_findGroups_78 rfl 0 rfl ?_
              refine z_get (pc := 79) (v := .ref (r 20)) F iX8 0 rfl rfl 27 (by decide) tw_885 rfl dX8_findGroups_79 ?_
              refine z_iload_n (pc := 82) F dX8_findGroups_82 rfl 2 rfl ?_
              refine z_laldN (pc := 83) (f := grp1) F 20 1 rfl rfl i rfl (by omega) (by decide) dX8_findGroups_83 ?_
              rw [show ((grp1) i) = x.2.2.1 from hgx]
              refine z_callVW (pc := 84) (q0 := 0) (ci := 8) (rest := []) F (c_X8_openGroup l E r (mfg S hh1 ab1 f1 hg1 md1 (nI (fL S q e m).length) row1 key1 grp1 sm1 (nI (gl (fL S q e m) i).length) va mn lo hi) k (x.2.2.1) (gl (fL S q e m) i) (by omega) (by omega) rfl hG) 2 ww_Model_144 (by decide +kernel) rfl ⟨Nat.le_of_ble_eq_true rfl, Nat.le_of_ble_eq_true rfl⟩ ⟨Nat.le_of_ble_eq_true rfl, Nat.le_of_ble_eq_true rfl⟩ rfl rfl rfl rfl (Nat.le_of_ble_eq_true rfl) dX8_findGroups_84 (fun v_ w1_ hp => ?_)
              obtain ⟨va1, mn1, lo1, hi1, rfl, rfl, h84_0⟩ := hp
              show Z X (0) (0) (mw E r (mfg S hh1 ab1 f1 hg1 md1 (nI (fL S q e m).length) row1 key1 grp1 sm1 (nI ((gl (fL S q e m) i).length + 1)) va1 mn1 lo1 hi1)) [(0, .ref (r 0)), (1, .int (nI q)), (2, .int (nI i)), (3, .int (nI k))] 87 []
              have hk0 : k ≤ (gl (fL S q e m) i).length := by omega
              have hG1 := tk_at (L := (gl (fL S q e m) i)) hk0 (0, x.2.2.1, 0, 0)
              obtain ⟨hn, -, hlo, hhi⟩ := h84_0 k _ hG1
              refine z_aload_n (pc := 87) F dX8_findGroups_87 rfl 0 rfl ?_
              refine z_get (pc := 88) (v := .ref (r 23)) F iX8 0 rfl rfl 31 (by decide) tw_889 rfl dX8_findGroups_88 ?_
              refine z_iload_n (pc := 91) F dX8_findGroups_91 rfl 3 rfl ?_
              refine z_dup2_11 (pc := 92) F dX8_findGroups_92 rfl rfl ?_
              refine z_ialdN (pc := 93) (f := mn1) F 23 0 rfl rfl k rfl (by omega) (by decide) dX8_findGroups_93 ?_
              rw [show ((mn1) k) = nI 0 from hn]
              refine z_iconst (pc := 94) (v := 1) F dX8_findGroups_94 (by decide) ?_
              refine z_iadd (pc := 95) F dX8_findGroups_95 ?_
              rw [show ((nI 0) + 1) = nI (0 + 1) from (nI_1 _)]
              refine z_iastN (pc := 96) (ws' := mw E r (mfg S hh1 ab1 f1 hg1 md1 (nI (fL S q e m).length) row1 key1 grp1 sm1 (nI ((gl (fL S q e m) i).length + 1)) va1 (upd mn1 k (nI (0 + 1))) lo1 hi1)) (f := mn1) F 23 0 rfl rfl k rfl (by omega) (by decide) dX8_findGroups_96 rfl ?_
              refine z_aload_n (pc := 97) F dX8_findGroups_97 rfl 0 rfl ?_
              refine z_get (pc := 98) (v := .ref (r 24)) F iX8 0 rfl rfl 32 (by decide) tw_890 rfl dX8_findGroups_98 ?_
              refine z_iload_n (pc := 101) F dX8_findGroups_101 rfl 3 rfl ?_
              refine z_laldN (pc := 102) (f := lo1) F 24 1 rfl rfl k rfl (by omega) (by decide) dX8_findGroups_102 ?_
              rw [show ((lo1) k) = 0 from hlo]
              refine z_lstore (pc := 103) (lv' := [(0, .ref (r 0)), (1, .int (nI q)), (2, .int (nI i)), (3, .int (nI k)), (4, .long 0)]) F dX8_findGroups_103 (by decide) [1, 2, 3, 4, 0] rfl ?_
              refine z_aload_n (pc := 105) F dX8_findGroups_105 rfl 0 rfl ?_
              refine z_get (pc := 106) (v := .ref (r 24)) F iX8 0 rfl rfl 32 (by decide) tw_890 rfl dX8_findGroups_106 ?_
              refine z_iload_n (pc := 109) F dX8_findGroups_109 rfl 3 rfl ?_
              refine z_dup2_11 (pc := 110) F dX8_findGroups_110 rfl rfl ?_
              refine z_laldN (pc := 111) (f := lo1) F 24 1 rfl rfl k rfl (by omega) (by decide) dX8_findGroups_111 ?_
              rw [show ((lo1) k) = 0 from hlo]
              refine z_aload_n (pc := 112) F dX8_findGroups_112 rfl 0 rfl ?_
              refine z_get (pc := 113) (v := .ref (r 21)) F iX8 0 rfl rfl 28 (by decide) tw_886 rfl dX8_findGroups_113 ?_
              refine z_iload_n (pc := 116) F dX8_findGroups_116 rfl 2 rfl ?_
              refine z_laldN (pc := 117) (f := sm1) F 21 1 rfl rfl i rfl (by omega) (by decide) dX8_findGroups_117 ?_
              rw [show ((sm1) i) = x.2.2.2 from hsx]
              refine z_ladd (pc := 118) F dX8_findGroups_118 ?_
              refine z_lastN (pc := 119) (ws' := mw E r (mfg S hh1 ab1 f1 hg1 md1 (nI (fL S q e m).length) row1 key1 grp1 sm1 (nI ((gl (fL S q e m) i).length + 1)) va1 (upd mn1 k (nI (0 + 1))) (vp_updL lo1 k (0 + (x.2.2.2))) hi1)) (f := lo1) F 24 1 rfl rfl k rfl (by omega) (by decide) dX8_findGroups_119 rfl ?_
              refine z_lload (pc := 120) F dX8_findGroups_120 4 rfl ?_
              refine z_aload_n (pc := 122) F dX8_findGroups_122 rfl 0 rfl ?_
              refine z_get (pc := 123) (v := .ref (r 21)) F iX8 0 rfl rfl 28 (by decide) tw_886 rfl dX8_findGroups_123 ?_
              refine z_iload_n (pc := 126) F dX8_findGroups_126 rfl 2 rfl ?_
              refine z_laldN (pc := 127) (f := sm1) F 21 1 rfl rfl i rfl (by omega) (by decide) dX8_findGroups_127 ?_
              rw [show ((sm1) i) = x.2.2.2 from hsx]
              refine z_land (pc := 128) F dX8_findGroups_128 ?_
              refine z_lload (pc := 129) F dX8_findGroups_129 4 rfl ?_
              refine z_aload_n (pc := 131) F dX8_findGroups_131 rfl 0 rfl ?_
              refine z_get (pc := 132) (v := .ref (r 21)) F iX8 0 rfl rfl 28 (by decide) tw_886 rfl dX8_findGroups_132 ?_
              refine z_iload_n (pc := 135) F dX8_findGroups_135 rfl 2 rfl ?_
              refine z_laldN (pc := 136) (f := sm1) F 21 1 rfl rfl i rfl (by omega) (by decide) dX8_findGroups_136 ?_
              rw [show ((sm1) i) = x.2.2.2 from hsx]
              refine z_lor (pc := 137) F dX8_findGroups_137 ?_
              refine z_aload_n (pc := 138) F dX8_findGroups_138 rfl 0 rfl ?_
              refine z_get (pc := 139) (v := .ref (r 24)) F iX8 0 rfl rfl 32 (by decide) tw_890 rfl dX8_findGroups_139 ?_
              refine z_iload_n (pc := 142) F dX8_findGroups_142 rfl 3 rfl ?_
              refine z_laldN (pc := 143) (f := vp_updL lo1 k (0 + (x.2.2.2))) F 24 1 rfl rfl k rfl (by omega) (by decide) dX8_findGroups_143 ?_
              rw [show ((vp_updL lo1 k (0 + (x.2.2.2))) k) = 0 + x.2.2.2 from pk_uLs]
              refine z_ldc2 (pc := 144) F dX8_findGroups_144 tw_1012 ?_
              refine z_lxor (pc := 147) F dX8_findGroups_147 ?_
              refine z_land (pc := 148) F dX8_findGroups_148 ?_
              refine z_lor (pc := 149) F dX8_findGroups_149 ?_
              refine z_lconst (pc := 150) (v := 0) F dX8_findGroups_150 (by decide) ?_
              refine z_l_ge (pc := 151) (tgt := 159) F dX8_findGroups_151 dX8_findGroups_152 (by decide) (fun c151 => ?_) (fun c151 => ?_)
              · refine z_iconst (pc := 159) (v := 0) F dX8_findGroups_159 (by decide) ?_
                refine z_istore (pc := 160) (lv' := [(0, .ref (r 0)), (1, .int (nI q)), (2, .int (nI i)), (3, .int (nI k)), (4, .long 0), (6, .int 0)]) F dX8_findGroups_160 (by decide) [1, 2, 3, 4, 5, 0] rfl ?_
                refine z_aload_n (pc := 162) F dX8_findGroups_162 rfl 0 rfl ?_
                refine z_get (pc := 163) (v := .ref (r 25)) F iX8 0 rfl rfl 33 (by decide) tw_891 rfl dX8_findGroups_163 ?_
                refine z_iload_n (pc := 166) F dX8_findGroups_166 rfl 3 rfl ?_
                refine z_dup2_11 (pc := 167) F dX8_findGroups_167 rfl rfl ?_
                refine z_laldN (pc := 168) (f := hi1) F 25 1 rfl rfl k rfl (by omega) (by decide) dX8_findGroups_168 ?_
                rw [show ((hi1) k) = 0 from hhi]
                refine z_aload_n (pc := 169) F dX8_findGroups_169 rfl 0 rfl ?_
                refine z_get (pc := 170) (v := .ref (r 21)) F iX8 0 rfl rfl 28 (by decide) tw_886 rfl dX8_findGroups_170 ?_
                refine z_iload_n (pc := 173) F dX8_findGroups_173 rfl 2 rfl ?_
                refine z_laldN (pc := 174) (f := sm1) F 21 1 rfl rfl i rfl (by omega) (by decide) dX8_findGroups_174 ?_
                rw [show ((sm1) i) = x.2.2.2 from hsx]
                refine z_lconst (pc := 175) (v := 0) F dX8_findGroups_175 (by decide) ?_
                refine z_l_ge (pc := 176) (tgt := 186) F dX8_findGroups_176 dX8_findGroups_177 (by decide) (fun c176 => ?_) (fun c176 => ?_)
                · refine z_lconst (pc := 186) (v := 0) F dX8_findGroups_186 (by decide) ?_
                  refine z_iload (pc := 187) F dX8_findGroups_187 5 rfl ?_
                  refine z_if_eq (pc := 189) (tgt := 196) F dX8_findGroups_189 (by decide) (fun _ => ?_) (fun h => absurd h (by decide))
                  refine z_lconst (pc := 196) (v := 0) F dX8_findGroups_196 (by decide) ?_
                  refine z_ladd (pc := 197) F dX8_findGroups_197 ?_
                  refine z_ladd (pc := 198) F dX8_findGroups_198 ?_
                  refine z_lastN (pc := 199) (ws' := mw E r (mfg S hh1 ab1 f1 hg1 md1 (nI (fL S q e m).length) row1 key1 grp1 sm1 (nI ((gl (fL S q e m) i).length + 1)) va1 (upd mn1 k (nI (0 + 1))) (vp_updL lo1 k (0 + (x.2.2.2))) (vp_updL hi1 k (0 + (0 + 0))))) (f := hi1) F 25 1 rfl rfl k rfl (by omega) (by decide) dX8_findGroups_199 rfl ?_
                  refine z_iinc (pc := 200) (v := nI (i + 1)) (lv' := [(0, .ref (r 0)), (1, .int (nI q)), (2, .int (nI (i + 1))), (3, .int (nI k)), (4, .long 0), (6, .int 0)]) F (j := 2) dX8_findGroups_200 rfl (nI_1 _) (by decide) [1, 2, 0, 3, 4, 5] rfl ?_
                  refine z_goto (pc := 203) (tgt := 12) F dX8_findGroups_203 (by decide) ?_
                  refine z_locals (lv' := [(0, .ref (r 0)), (1, .int (nI q)), (2, .int (nI (i + 1)))]) [0, 1, 2] rfl ?_
                  have e1 := gl_s hx; rw [addG_open x.2.2.1 x.2.2.2 (gl (fL S q e m) i) k hk0 hlt (fun y2 hy2 => absurd (List.getElem?_eq_some_iff.mp hy2).1 (by omega)), show upG x.2.2.2 (0, x.2.2.1, 0, 0) = (0 + 1, x.2.2.1, (0 + (x.2.2.2)), (0 + (0 + 0))) from by simp only [upG, c151, c176, if_true, if_false]] at e1; rw [show (gl (fL S q e m) i).length + 1 = (gl (fL S q e m) (i + 1)).length from by rw [e1]; simp; omega]; exact ih12 (i + 1) va1 (upd mn1 k (nI (0 + 1))) (vp_updL lo1 k (0 + (x.2.2.2))) (vp_updL hi1 k (0 + (0 + 0))) (by omega) (by omega) (by rw [e1]; exact hoG_set h84_0 hG1 (0 + 1, x.2.2.1, (0 + (x.2.2.2)), (0 + (0 + 0))) rfl)
                · refine z_ldc2 (pc := 180) F dX8_findGroups_180 tw_1012 ?_
                  refine z_goto (pc := 183) (tgt := 187) F dX8_findGroups_183 (by decide) ?_
                  refine z_iload (pc := 187) F dX8_findGroups_187 5 rfl ?_
                  refine z_if_eq (pc := 189) (tgt := 196) F dX8_findGroups_189 (by decide) (fun _ => ?_) (fun h => absurd h (by decide))
                  refine z_lconst (pc := 196) (v := 0) F dX8_findGroups_196 (by decide) ?_
                  refine z_ladd (pc := 197) F dX8_findGroups_197 ?_
                  refine z_ladd (pc := 198) F dX8_findGroups_198 ?_
                  refine z_lastN (pc := 199) (ws' := mw E r (mfg S hh1 ab1 f1 hg1 md1 (nI (fL S q e m).length) row1 key1 grp1 sm1 (nI ((gl (fL S q e m) i).length + 1)) va1 (upd mn1 k (nI (0 + 1))) (vp_updL lo1 k (0 + (x.2.2.2))) (vp_updL hi1 k (0 + ((-1) + 0))))) (f := hi1) F 25 1 rfl rfl k rfl (by omega) (by decide) dX8_findGroups_199 rfl ?_
                  refine z_iinc (pc := 200) (v := nI (i + 1)) (lv' := [(0, .ref (r 0)), (1, .int (nI q)), (2, .int (nI (i + 1))), (3, .int (nI k)), (4, .long 0), (6, .int 0)]) F (j := 2) dX8_findGroups_200 rfl (nI_1 _) (by decide) [1, 2, 0, 3, 4, 5] rfl ?_
                  refine z_goto (pc := 203) (tgt := 12) F dX8_findGroups_203 (by decide) ?_
                  refine z_locals (lv' := [(0, .ref (r 0)), (1, .int (nI q)), (2, .int (nI (i + 1)))]) [0, 1, 2] rfl ?_
                  have e1 := gl_s hx; rw [addG_open x.2.2.1 x.2.2.2 (gl (fL S q e m) i) k hk0 hlt (fun y2 hy2 => absurd (List.getElem?_eq_some_iff.mp hy2).1 (by omega)), show upG x.2.2.2 (0, x.2.2.1, 0, 0) = (0 + 1, x.2.2.1, (0 + (x.2.2.2)), (0 + ((-1) + 0))) from by simp only [upG, c151, c176, if_true, if_false]] at e1; rw [show (gl (fL S q e m) i).length + 1 = (gl (fL S q e m) (i + 1)).length from by rw [e1]; simp; omega]; exact ih12 (i + 1) va1 (upd mn1 k (nI (0 + 1))) (vp_updL lo1 k (0 + (x.2.2.2))) (vp_updL hi1 k (0 + ((-1) + 0))) (by omega) (by omega) (by rw [e1]; exact hoG_set h84_0 hG1 (0 + 1, x.2.2.1, (0 + (x.2.2.2)), (0 + ((-1) + 0))) rfl)
              · refine z_iconst (pc := 155) (v := 1) F dX8_findGroups_155 (by decide) ?_
                refine z_goto (pc := 156) (tgt := 160) F dX8_findGroups_156 (by decide) ?_
                refine z_istore (pc := 160) (lv' := [(0, .ref (r 0)), (1, .int (nI q)), (2, .int (nI i)), (3, .int (nI k)), (4, .long 0), (6, .int 1)]) F dX8_findGroups_160 (by decide) [1, 2, 3, 4, 5, 0] rfl ?_
                refine z_aload_n (pc := 162) F dX8_findGroups_162 rfl 0 rfl ?_
                refine z_get (pc := 163) (v := .ref (r 25)) F iX8 0 rfl rfl 33 (by decide) tw_891 rfl dX8_findGroups_163 ?_
                refine z_iload_n (pc := 166) F dX8_findGroups_166 rfl 3 rfl ?_
                refine z_dup2_11 (pc := 167) F dX8_findGroups_167 rfl rfl ?_
                refine z_laldN (pc := 168) (f := hi1) F 25 1 rfl rfl k rfl (by omega) (by decide) dX8_findGroups_168 ?_
                rw [show ((hi1) k) = 0 from hhi]
                refine z_aload_n (pc := 169) F dX8_findGroups_169 rfl 0 rfl ?_
                refine z_get (pc := 170) (v := .ref (r 21)) F iX8 0 rfl rfl 28 (by decide) tw_886 rfl dX8_findGroups_170 ?_
                refine z_iload_n (pc := 173) F dX8_findGroups_173 rfl 2 rfl ?_
                refine z_laldN (pc := 174) (f := sm1) F 21 1 rfl rfl i rfl (by omega) (by decide) dX8_findGroups_174 ?_
                rw [show ((sm1) i) = x.2.2.2 from hsx]
                refine z_lconst (pc := 175) (v := 0) F dX8_findGroups_175 (by decide) ?_
                refine z_l_ge (pc := 176) (tgt := 186) F dX8_findGroups_176 dX8_findGroups_177 (by decide) (fun c176 => ?_) (fun c176 => ?_)
                · refine z_lconst (pc := 186) (v := 0) F dX8_findGroups_186 (by decide) ?_
                  refine z_iload (pc := 187) F dX8_findGroups_187 5 rfl ?_
                  refine z_if_eq (pc := 189) (tgt := 196) F dX8_findGroups_189 (by decide) (fun h => absurd h (by decide)) (fun _ => ?_)
                  refine z_lconst (pc := 192) (v := 1) F dX8_findGroups_192 (by decide) ?_
                  refine z_goto (pc := 193) (tgt := 197) F dX8_findGroups_193 (by decide) ?_
                  refine z_ladd (pc := 197) F dX8_findGroups_197 ?_
                  refine z_ladd (pc := 198) F dX8_findGroups_198 ?_
                  refine z_lastN (pc := 199) (ws' := mw E r (mfg S hh1 ab1 f1 hg1 md1 (nI (fL S q e m).length) row1 key1 grp1 sm1 (nI ((gl (fL S q e m) i).length + 1)) va1 (upd mn1 k (nI (0 + 1))) (vp_updL lo1 k (0 + (x.2.2.2))) (vp_updL hi1 k (0 + (0 + 1))))) (f := hi1) F 25 1 rfl rfl k rfl (by omega) (by decide) dX8_findGroups_199 rfl ?_
                  refine z_iinc (pc := 200) (v := nI (i + 1)) (lv' := [(0, .ref (r 0)), (1, .int (nI q)), (2, .int (nI (i + 1))), (3, .int (nI k)), (4, .long 0), (6, .int 1)]) F (j := 2) dX8_findGroups_200 rfl (nI_1 _) (by decide) [1, 2, 0, 3, 4, 5] rfl ?_
                  refine z_goto (pc := 203) (tgt := 12) F dX8_findGroups_203 (by decide) ?_
                  refine z_locals (lv' := [(0, .ref (r 0)), (1, .int (nI q)), (2, .int (nI (i + 1)))]) [0, 1, 2] rfl ?_
                  have e1 := gl_s hx; rw [addG_open x.2.2.1 x.2.2.2 (gl (fL S q e m) i) k hk0 hlt (fun y2 hy2 => absurd (List.getElem?_eq_some_iff.mp hy2).1 (by omega)), show upG x.2.2.2 (0, x.2.2.1, 0, 0) = (0 + 1, x.2.2.1, (0 + (x.2.2.2)), (0 + (0 + 1))) from by simp only [upG, c151, c176, if_true, if_false]] at e1; rw [show (gl (fL S q e m) i).length + 1 = (gl (fL S q e m) (i + 1)).length from by rw [e1]; simp; omega]; exact ih12 (i + 1) va1 (upd mn1 k (nI (0 + 1))) (vp_updL lo1 k (0 + (x.2.2.2))) (vp_updL hi1 k (0 + (0 + 1))) (by omega) (by omega) (by rw [e1]; exact hoG_set h84_0 hG1 (0 + 1, x.2.2.1, (0 + (x.2.2.2)), (0 + (0 + 1))) rfl)
                · refine z_ldc2 (pc := 180) F dX8_findGroups_180 tw_1012 ?_
                  refine z_goto (pc := 183) (tgt := 187) F dX8_findGroups_183 (by decide) ?_
                  refine z_iload (pc := 187) F dX8_findGroups_187 5 rfl ?_
                  refine z_if_eq (pc := 189) (tgt := 196) F dX8_findGroups_189 (by decide) (fun h => absurd h (by decide)) (fun _ => ?_)
                  refine z_lconst (pc := 192) (v := 1) F dX8_findGroups_192 (by decide) ?_
                  refine z_goto (pc := 193) (tgt := 197) F dX8_findGroups_193 (by decide) ?_
                  refine z_ladd (pc := 197) F dX8_findGroups_197 ?_
                  refine z_ladd (pc := 198) F dX8_findGroups_198 ?_
                  refine z_lastN (pc := 199) (ws' := mw E r (mfg S hh1 ab1 f1 hg1 md1 (nI (fL S q e m).length) row1 key1 grp1 sm1 (nI ((gl (fL S q e m) i).length + 1)) va1 (upd mn1 k (nI (0 + 1))) (vp_updL lo1 k (0 + (x.2.2.2))) (vp_updL hi1 k (0 + ((-1) + 1))))) (f := hi1) F 25 1 rfl rfl k rfl (by omega) (by decide) dX8_findGroups_199 rfl ?_
                  refine z_iinc (pc := 200) (v := nI (i + 1)) (lv' := [(0, .ref (r 0)), (1, .int (nI q)), (2, .int (nI (i + 1))), (3, .int (nI k)), (4, .long 0), (6, .int 1)]) F (j := 2) dX8_findGroups_200 rfl (nI_1 _) (by decide) [1, 2, 0, 3, 4, 5] rfl ?_
                  refine z_goto (pc := 203) (tgt := 12) F dX8_findGroups_203 (by decide) ?_
                  refine z_locals (lv' := [(0, .ref (r 0)), (1, .int (nI q)), (2, .int (nI (i + 1)))]) [0, 1, 2] rfl ?_
                  have e1 := gl_s hx; rw [addG_open x.2.2.1 x.2.2.2 (gl (fL S q e m) i) k hk0 hlt (fun y2 hy2 => absurd (List.getElem?_eq_some_iff.mp hy2).1 (by omega)), show upG x.2.2.2 (0, x.2.2.1, 0, 0) = (0 + 1, x.2.2.1, (0 + (x.2.2.2)), (0 + ((-1) + 1))) from by simp only [upG, c151, c176, if_true, if_false]] at e1; rw [show (gl (fL S q e m) i).length + 1 = (gl (fL S q e m) (i + 1)).length from by rw [e1]; simp; omega]; exact ih12 (i + 1) va1 (upd mn1 k (nI (0 + 1))) (vp_updL lo1 k (0 + (x.2.2.2))) (vp_updL hi1 k (0 + ((-1) + 1))) (by omega) (by omega) (by rw [e1]; exact hoG_set h84_0 hG1 (0 + 1, x.2.2.1, (0 + (x.2.2.2)), (0 + ((-1) + 1))) rfl)
            · have hkl := ngI (by omega) (by omega) c27
              obtain ⟨y, hy⟩ : ∃ y, (gl (fL S q e m) i)[k]? = some y := ⟨_, List.getElem?_eq_getElem (by omega)⟩
              obtain ⟨hyn, hyv, hyl, hyh⟩ := hG k y hy
              refine z_aload_n (pc := 30) F dX8_findGroups_30 rfl 0 rfl ?_
              refine z_get (pc := 31) (v := .ref (r 22)) F iX8 0 rfl rfl 30 (by decide) tw_888 rfl dX8_findGroups_31 ?_
              refine z_iload_n (pc := 34) F dX8_findGroups_34 rfl 3 rfl ?_
              refine z_laldN (pc := 35) (f := va) F 22 1 rfl rfl k rfl (by omega) (by decide) dX8_findGroups_35 ?_
              rw [show ((va) k) = y.2.1 from hyv]
              refine z_aload_n (pc := 36) F dX8_findGroups_36 rfl 0 rfl ?_
              refine z_get (pc := 37) (v := .ref (r 20)) F iX8 0 rfl rfl 27 (by decide) tw_885 rfl dX8_findGroups_37 ?_
              refine z_iload_n (pc := 40) F dX8_findGroups_40 rfl 2 rfl ?_
              refine z_laldN (pc := 41) (f := grp1) F 20 1 rfl rfl i rfl (by omega) (by decide) dX8_findGroups_41 ?_
              rw [show ((grp1) i) = x.2.2.1 from hgx]
              refine z_l_ge (pc := 42) (tgt := 52) F dX8_findGroups_42 dX8_findGroups_43 (by decide) (fun c42 => ?_) (fun c42 => ?_)
              · refine z_iload_n (pc := 52) F dX8_findGroups_52 rfl 3 rfl ?_
                refine z_aload_n (pc := 53) F dX8_findGroups_53 rfl 0 rfl ?_
                refine z_get (pc := 54) (v := .int (nI (gl (fL S q e m) i).length)) F iX8 0 rfl rfl 29 (by decide) tw_887 rfl dX8_findGroups_54 ?_
                refine z_icmp_eq (pc := 57) (tgt := 76) F dX8_findGroups_57 (by decide) (fun c57 => absurd c57 (fun h => by have := (nI_eq (by omega) (by omega)).mp h; omega)) (fun c57 => ?_)
                refine z_aload_n (pc := 60) F dX8_findGroups_60 rfl 0 rfl ?_
                refine z_get (pc := 61) (v := .ref (r 22)) F iX8 0 rfl rfl 30 (by decide) tw_888 rfl dX8_findGroups_61 ?_
                refine z_iload_n (pc := 64) F dX8_findGroups_64 rfl 3 rfl ?_
                refine z_laldN (pc := 65) (f := va) F 22 1 rfl rfl k rfl (by omega) (by decide) dX8_findGroups_65 ?_
                rw [show ((va) k) = y.2.1 from hyv]
                refine z_aload_n (pc := 66) F dX8_findGroups_66 rfl 0 rfl ?_
                refine z_get (pc := 67) (v := .ref (r 20)) F iX8 0 rfl rfl 27 (by decide) tw_885 rfl dX8_findGroups_67 ?_
                refine z_iload_n (pc := 70) F dX8_findGroups_70 rfl 2 rfl ?_
                refine z_laldN (pc := 71) (f := grp1) F 20 1 rfl rfl i rfl (by omega) (by decide) dX8_findGroups_71 ?_
                rw [show ((grp1) i) = x.2.2.1 from hgx]
                refine z_l_eq (pc := 72) (tgt := 87) F dX8_findGroups_72 dX8_findGroups_73 (by decide) (fun c72 => ?_) (fun c72 => ?_)
                · have hn := hyn
                  have hlo := hyl
                  have hhi := hyh
                  refine z_aload_n (pc := 87) F dX8_findGroups_87 rfl 0 rfl ?_
                  refine z_get (pc := 88) (v := .ref (r 23)) F iX8 0 rfl rfl 31 (by decide) tw_889 rfl dX8_findGroups_88 ?_
                  refine z_iload_n (pc := 91) F dX8_findGroups_91 rfl 3 rfl ?_
                  refine z_dup2_11 (pc := 92) F dX8_findGroups_92 rfl rfl ?_
                  refine z_ialdN (pc := 93) (f := mn) F 23 0 rfl rfl k rfl (by omega) (by decide) dX8_findGroups_93 ?_
                  rw [show ((mn) k) = nI y.1 from hn]
                  refine z_iconst (pc := 94) (v := 1) F dX8_findGroups_94 (by decide) ?_
                  refine z_iadd (pc := 95) F dX8_findGroups_95 ?_
                  rw [show ((nI y.1) + 1) = nI (y.1 + 1) from (nI_1 _)]
                  refine z_iastN (pc := 96) (ws' := mw E r (mfg S hh1 ab1 f1 hg1 md1 (nI (fL S q e m).length) row1 key1 grp1 sm1 (nI (gl (fL S q e m) i).length) va (upd mn k (nI (y.1 + 1))) lo hi)) (f := mn) F 23 0 rfl rfl k rfl (by omega) (by decide) dX8_findGroups_96 rfl ?_
                  refine z_aload_n (pc := 97) F dX8_findGroups_97 rfl 0 rfl ?_
                  refine z_get (pc := 98) (v := .ref (r 24)) F iX8 0 rfl rfl 32 (by decide) tw_890 rfl dX8_findGroups_98 ?_
                  refine z_iload_n (pc := 101) F dX8_findGroups_101 rfl 3 rfl ?_
                  refine z_laldN (pc := 102) (f := lo) F 24 1 rfl rfl k rfl (by omega) (by decide) dX8_findGroups_102 ?_
                  rw [show ((lo) k) = y.2.2.1 from hlo]
                  refine z_lstore (pc := 103) (lv' := [(0, .ref (r 0)), (1, .int (nI q)), (2, .int (nI i)), (3, .int (nI k)), (4, .long (y.2.2.1))]) F dX8_findGroups_103 (by decide) [1, 2, 3, 4, 0] rfl ?_
                  refine z_aload_n (pc := 105) F dX8_findGroups_105 rfl 0 rfl ?_
                  refine z_get (pc := 106) (v := .ref (r 24)) F iX8 0 rfl rfl 32 (by decide) tw_890 rfl dX8_findGroups_106 ?_
                  refine z_iload_n (pc := 109) F dX8_findGroups_109 rfl 3 rfl ?_
                  refine z_dup2_11 (pc := 110) F dX8_findGroups_110 rfl rfl ?_
                  refine z_laldN (pc := 111) (f := lo) F 24 1 rfl rfl k rfl (by omega) (by decide) dX8_findGroups_111 ?_
                  rw [show ((lo) k) = y.2.2.1 from hlo]
                  refine z_aload_n (pc := 112) F dX8_findGroups_112 rfl 0 rfl ?_
                  refine z_get (pc := 113) (v := .ref (r 21)) F iX8 0 rfl rfl 28 (by decide) tw_886 rfl dX8_findGroups_113 ?_
                  refine z_iload_n (pc := 116) F dX8_findGroups_116 rfl 2 rfl ?_
                  refine z_laldN (pc := 117) (f := sm1) F 21 1 rfl rfl i rfl (by omega) (by decide) dX8_findGroups_117 ?_
                  rw [show ((sm1) i) = x.2.2.2 from hsx]
                  refine z_ladd (pc := 118) F dX8_findGroups_118 ?_
                  refine z_lastN (pc := 119) (ws' := mw E r (mfg S hh1 ab1 f1 hg1 md1 (nI (fL S q e m).length) row1 key1 grp1 sm1 (nI (gl (fL S q e m) i).length) va (upd mn k (nI (y.1 + 1))) (vp_updL lo k ((y.2.2.1) + (x.2.2.2))) hi)) (f := lo) F 24 1 rfl rfl k rfl (by omega) (by decide) dX8_findGroups_119 rfl ?_
                  refine z_lload (pc := 120) F dX8_findGroups_120 4 rfl ?_
                  refine z_aload_n (pc := 122) F dX8_findGroups_122 rfl 0 rfl ?_
                  refine z_get (pc := 123) (v := .ref (r 21)) F iX8 0 rfl rfl 28 (by decide) tw_886 rfl dX8_findGroups_123 ?_
                  refine z_iload_n (pc := 126) F dX8_findGroups_126 rfl 2 rfl ?_
                  refine z_laldN (pc := 127) (f := sm1) F 21 1 rfl rfl i rfl (by omega) (by decide) dX8_findGroups_127 ?_
                  rw [show ((sm1) i) = x.2.2.2 from hsx]
                  refine z_land (pc := 128) F dX8_findGroups_128 ?_
                  refine z_lload (pc := 129) F dX8_findGroups_129 4 rfl ?_
                  refine z_aload_n (pc := 131) F dX8_findGroups_131 rfl 0 rfl ?_
                  refine z_get (pc := 132) (v := .ref (r 21)) F iX8 0 rfl rfl 28 (by decide) tw_886 rfl dX8_findGroups_132 ?_
                  refine z_iload_n (pc := 135) F dX8_findGroups_135 rfl 2 rfl ?_
                  refine z_laldN (pc := 136) (f := sm1) F 21 1 rfl rfl i rfl (by omega) (by decide) dX8_findGroups_136 ?_
                  rw [show ((sm1) i) = x.2.2.2 from hsx]
                  refine z_lor (pc := 137) F dX8_findGroups_137 ?_
                  refine z_aload_n (pc := 138) F dX8_findGroups_138 rfl 0 rfl ?_
                  refine z_get (pc := 139) (v := .ref (r 24)) F iX8 0 rfl rfl 32 (by decide) tw_890 rfl dX8_findGroups_139 ?_
                  refine z_iload_n (pc := 142) F dX8_findGroups_142 rfl 3 rfl ?_
                  refine z_laldN (pc := 143) (f := vp_updL lo k ((y.2.2.1) + (x.2.2.2))) F 24 1 rfl rfl k rfl (by omega) (by decide) dX8_findGroups_143 ?_
                  rw [show ((vp_updL lo k ((y.2.2.1) + (x.2.2.2))) k) = y.2.2.1 + x.2.2.2 from pk_uLs]
                  refine z_ldc2 (pc := 144) F dX8_findGroups_144 tw_1012 ?_
                  refine z_lxor (pc := 147) F dX8_findGroups_147 ?_
                  refine z_land (pc := 148) F dX8_findGroups_148 ?_
                  refine z_lor (pc := 149) F dX8_findGroups_149 ?_
                  refine z_lconst (pc := 150) (v := 0) F dX8_findGroups_150 (by decide) ?_
                  refine z_l_ge (pc := 151) (tgt := 159) F dX8_findGroups_151 dX8_findGroups_152 (by decide) (fun c151 => ?_) (fun c151 => ?_)
                  · refine z_iconst (pc := 159) (v := 0) F dX8_findGroups_159 (by decide) ?_
                    refine z_istore (pc := 160) (lv' := [(0, .ref (r 0)), (1, .int (nI q)), (2, .int (nI i)), (3, .int (nI k)), (4, .long (y.2.2.1)), (6, .int 0)]) F dX8_findGroups_160 (by decide) [1, 2, 3, 4, 5, 0] rfl ?_
                    refine z_aload_n (pc := 162) F dX8_findGroups_162 rfl 0 rfl ?_
                    refine z_get (pc := 163) (v := .ref (r 25)) F iX8 0 rfl rfl 33 (by decide) tw_891 rfl dX8_findGroups_163 ?_
                    refine z_iload_n (pc := 166) F dX8_findGroups_166 rfl 3 rfl ?_
                    refine z_dup2_11 (pc := 167) F dX8_findGroups_167 rfl rfl ?_
                    refine z_laldN (pc := 168) (f := hi) F 25 1 rfl rfl k rfl (by omega) (by decide) dX8_findGroups_168 ?_
                    rw [show ((hi) k) = y.2.2.2 from hhi]
                    refine z_aload_n (pc := 169) F dX8_findGroups_169 rfl 0 rfl ?_
                    refine z_get (pc := 170) (v := .ref (r 21)) F iX8 0 rfl rfl 28 (by decide) tw_886 rfl dX8_findGroups_170 ?_
                    refine z_iload_n (pc := 173) F dX8_findGroups_173 rfl 2 rfl ?_
                    refine z_laldN (pc := 174) (f := sm1) F 21 1 rfl rfl i rfl (by omega) (by decide) dX8_findGroups_174 ?_
                    rw [show ((sm1) i) = x.2.2.2 from hsx]
                    refine z_lconst (pc := 175) (v := 0) F dX8_findGroups_175 (by decide) ?_
                    refine z_l_ge (pc := 176) (tgt := 186) F dX8_findGroups_176 dX8_findGroups_177 (by decide) (fun c176 => ?_) (fun c176 => ?_)
                    · refine z_lconst (pc := 186) (v := 0) F dX8_findGroups_186 (by decide) ?_
                      refine z_iload (pc := 187) F dX8_findGroups_187 5 rfl ?_
                      refine z_if_eq (pc := 189) (tgt := 196) F dX8_findGroups_189 (by decide) (fun _ => ?_) (fun h => absurd h (by decide))
                      refine z_lconst (pc := 196) (v := 0) F dX8_findGroups_196 (by decide) ?_
                      refine z_ladd (pc := 197) F dX8_findGroups_197 ?_
                      refine z_ladd (pc := 198) F dX8_findGroups_198 ?_
                      refine z_lastN (pc := 199) (ws' := mw E r (mfg S hh1 ab1 f1 hg1 md1 (nI (fL S q e m).length) row1 key1 grp1 sm1 (nI (gl (fL S q e m) i).length) va (upd mn k (nI (y.1 + 1))) (vp_updL lo k ((y.2.2.1) + (x.2.2.2))) (vp_updL hi k ((y.2.2.2) + (0 + 0))))) (f := hi) F 25 1 rfl rfl k rfl (by omega) (by decide) dX8_findGroups_199 rfl ?_
                      refine z_iinc (pc := 200) (v := nI (i + 1)) (lv' := [(0, .ref (r 0)), (1, .int (nI q)), (2, .int (nI (i + 1))), (3, .int (nI k)), (4, .long (y.2.2.1)), (6, .int 0)]) F (j := 2) dX8_findGroups_200 rfl (nI_1 _) (by decide) [1, 2, 0, 3, 4, 5] rfl ?_
                      refine z_goto (pc := 203) (tgt := 12) F dX8_findGroups_203 (by decide) ?_
                      refine z_locals (lv' := [(0, .ref (r 0)), (1, .int (nI q)), (2, .int (nI (i + 1)))]) [0, 1, 2] rfl ?_
                      have e1 := gl_s hx; rw [addG_eq x.2.2.1 x.2.2.2 (gl (fL S q e m) i) k y hy c72 hlt, show upG x.2.2.2 y = (y.1 + 1, y.2.1, ((y.2.2.1) + (x.2.2.2)), ((y.2.2.2) + (0 + 0))) from by simp only [upG, c151, c176, if_true, if_false]] at e1; rw [show (gl (fL S q e m) i).length = (gl (fL S q e m) (i + 1)).length from by rw [e1]; simp]; exact ih12 (i + 1) va (upd mn k (nI (y.1 + 1))) (vp_updL lo k ((y.2.2.1) + (x.2.2.2))) (vp_updL hi k ((y.2.2.2) + (0 + 0))) (by omega) (by omega) (by rw [e1]; exact hoG_set hG hy (y.1 + 1, y.2.1, ((y.2.2.1) + (x.2.2.2)), ((y.2.2.2) + (0 + 0))) rfl)
                    · refine z_ldc2 (pc := 180) F dX8_findGroups_180 tw_1012 ?_
                      refine z_goto (pc := 183) (tgt := 187) F dX8_findGroups_183 (by decide) ?_
                      refine z_iload (pc := 187) F dX8_findGroups_187 5 rfl ?_
                      refine z_if_eq (pc := 189) (tgt := 196) F dX8_findGroups_189 (by decide) (fun _ => ?_) (fun h => absurd h (by decide))
                      refine z_lconst (pc := 196) (v := 0) F dX8_findGroups_196 (by decide) ?_
                      refine z_ladd (pc := 197) F dX8_findGroups_197 ?_
                      refine z_ladd (pc := 198) F dX8_findGroups_198 ?_
                      refine z_lastN (pc := 199) (ws' := mw E r (mfg S hh1 ab1 f1 hg1 md1 (nI (fL S q e m).length) row1 key1 grp1 sm1 (nI (gl (fL S q e m) i).length) va (upd mn k (nI (y.1 + 1))) (vp_updL lo k ((y.2.2.1) + (x.2.2.2))) (vp_updL hi k ((y.2.2.2) + ((-1) + 0))))) (f := hi) F 25 1 rfl rfl k rfl (by omega) (by decide) dX8_findGroups_199 rfl ?_
                      refine z_iinc (pc := 200) (v := nI (i + 1)) (lv' := [(0, .ref (r 0)), (1, .int (nI q)), (2, .int (nI (i + 1))), (3, .int (nI k)), (4, .long (y.2.2.1)), (6, .int 0)]) F (j := 2) dX8_findGroups_200 rfl (nI_1 _) (by decide) [1, 2, 0, 3, 4, 5] rfl ?_
                      refine z_goto (pc := 203) (tgt := 12) F dX8_findGroups_203 (by decide) ?_
                      refine z_locals (lv' := [(0, .ref (r 0)), (1, .int (nI q)), (2, .int (nI (i + 1)))]) [0, 1, 2] rfl ?_
                      have e1 := gl_s hx; rw [addG_eq x.2.2.1 x.2.2.2 (gl (fL S q e m) i) k y hy c72 hlt, show upG x.2.2.2 y = (y.1 + 1, y.2.1, ((y.2.2.1) + (x.2.2.2)), ((y.2.2.2) + ((-1) + 0))) from by simp only [upG, c151, c176, if_true, if_false]] at e1; rw [show (gl (fL S q e m) i).length = (gl (fL S q e m) (i + 1)).length from by rw [e1]; simp]; exact ih12 (i + 1) va (upd mn k (nI (y.1 + 1))) (vp_updL lo k ((y.2.2.1) + (x.2.2.2))) (vp_updL hi k ((y.2.2.2) + ((-1) + 0))) (by omega) (by omega) (by rw [e1]; exact hoG_set hG hy (y.1 + 1, y.2.1, ((y.2.2.1) + (x.2.2.2)), ((y.2.2.2) + ((-1) + 0))) rfl)
                  · refine z_iconst (pc := 155) (v := 1) F dX8_findGroups_155 (by decide) ?_
                    refine z_goto (pc := 156) (tgt := 160) F dX8_findGroups_156 (by decide) ?_
                    refine z_istore (pc := 160) (lv' := [(0, .ref (r 0)), (1, .int (nI q)), (2, .int (nI i)), (3, .int (nI k)), (4, .long (y.2.2.1)), (6, .int 1)]) F dX8_findGroups_160 (by decide) [1, 2, 3, 4, 5, 0] rfl ?_
                    refine z_aload_n (pc := 162) F dX8_findGroups_162 rfl 0 rfl ?_
                    refine z_get (pc := 163) (v := .ref (r 25)) F iX8 0 rfl rfl 33 (by decide) tw_891 rfl dX8_findGroups_163 ?_
                    refine z_iload_n (pc := 166) F dX8_findGroups_166 rfl 3 rfl ?_
                    refine z_dup2_11 (pc := 167) F dX8_findGroups_167 rfl rfl ?_
                    refine z_laldN (pc := 168) (f := hi) F 25 1 rfl rfl k rfl (by omega) (by decide) dX8_findGroups_168 ?_
                    rw [show ((hi) k) = y.2.2.2 from hhi]
                    refine z_aload_n (pc := 169) F dX8_findGroups_169 rfl 0 rfl ?_
                    refine z_get (pc := 170) (v := .ref (r 21)) F iX8 0 rfl rfl 28 (by decide) tw_886 rfl dX8_findGroups_170 ?_
                    refine z_iload_n (pc := 173) F dX8_findGroups_173 rfl 2 rfl ?_
                    refine z_laldN (pc := 174) (f := sm1) F 21 1 rfl rfl i rfl (by omega) (by decide) dX8_findGroups_174 ?_
                    rw [show ((sm1) i) = x.2.2.2 from hsx]
                    refine z_lconst (pc := 175) (v := 0) F dX8_findGroups_175 (by decide) ?_
                    refine z_l_ge (pc := 176) (tgt := 186) F dX8_findGroups_176 dX8_findGroups_177 (by decide) (fun c176 => ?_) (fun c176 => ?_)
                    · refine z_lconst (pc := 186) (v := 0) F dX8_findGroups_186 (by decide) ?_
                      refine z_iload (pc := 187) F dX8_findGroups_187 5 rfl ?_
                      refine z_if_eq (pc := 189) (tgt := 196) F dX8_findGroups_189 (by decide) (fun h => absurd h (by decide)) (fun _ => ?_)
                      refine z_lconst (pc := 192) (v := 1) F dX8_findGroups_192 (by decide) ?_
                      refine z_goto (pc := 193) (tgt := 197) F dX8_findGroups_193 (by decide) ?_
                      refine z_ladd (pc := 197) F dX8_findGroups_197 ?_
                      refine z_ladd (pc := 198) F dX8_findGroups_198 ?_
                      refine z_lastN (pc := 199) (ws' := mw E r (mfg S hh1 ab1 f1 hg1 md1 (nI (fL S q e m).length) row1 key1 grp1 sm1 (nI (gl (fL S q e m) i).length) va (upd mn k (nI (y.1 + 1))) (vp_updL lo k ((y.2.2.1) + (x.2.2.2))) (vp_updL hi k ((y.2.2.2) + (0 + 1))))) (f := hi) F 25 1 rfl rfl k rfl (by omega) (by decide) dX8_findGroups_199 rfl ?_
                      refine z_iinc (pc := 200) (v := nI (i + 1)) (lv' := [(0, .ref (r 0)), (1, .int (nI q)), (2, .int (nI (i + 1))), (3, .int (nI k)), (4, .long (y.2.2.1)), (6, .int 1)]) F (j := 2) dX8_findGroups_200 rfl (nI_1 _) (by decide) [1, 2, 0, 3, 4, 5] rfl ?_
                      refine z_goto (pc := 203) (tgt := 12) F dX8_findGroups_203 (by decide) ?_
                      refine z_locals (lv' := [(0, .ref (r 0)), (1, .int (nI q)), (2, .int (nI (i + 1)))]) [0, 1, 2] rfl ?_
                      have e1 := gl_s hx; rw [addG_eq x.2.2.1 x.2.2.2 (gl (fL S q e m) i) k y hy c72 hlt, show upG x.2.2.2 y = (y.1 + 1, y.2.1, ((y.2.2.1) + (x.2.2.2)), ((y.2.2.2) + (0 + 1))) from by simp only [upG, c151, c176, if_true, if_false]] at e1; rw [show (gl (fL S q e m) i).length = (gl (fL S q e m) (i + 1)).length from by rw [e1]; simp]; exact ih12 (i + 1) va (upd mn k (nI (y.1 + 1))) (vp_updL lo k ((y.2.2.1) + (x.2.2.2))) (vp_updL hi k ((y.2.2.2) + (0 + 1))) (by omega) (by omega) (by rw [e1]; exact hoG_set hG hy (y.1 + 1, y.2.1, ((y.2.2.1) + (x.2.2.2)), ((y.2.2.2) + (0 + 1))) rfl)
                    · refine z_ldc2 (pc := 180) F dX8_findGroups_180 tw_1012 ?_
                      refine z_goto (pc := 183) (tgt := 187) F dX8_findGroups_183 (by decide) ?_
                      refine z_iload (pc := 187) F dX8_findGroups_187 5 rfl ?_
                      refine z_if_eq (pc := 189) (tgt := 196) F dX8_findGroups_189 (by decide) (fun h => absurd h (by decide)) (fun _ => ?_)
                      refine z_lconst (pc := 192) (v := 1) F dX8_findGroups_192 (by decide) ?_
                      refine z_goto (pc := 193) (tgt := 197) F dX8_findGroups_193 (by decide) ?_
                      refine z_ladd (pc := 197) F dX8_findGroups_197 ?_
                      refine z_ladd (pc := 198) F dX8_findGroups_198 ?_
                      refine z_lastN (pc := 199) (ws' := mw E r (mfg S hh1 ab1 f1 hg1 md1 (nI (fL S q e m).length) row1 key1 grp1 sm1 (nI (gl (fL S q e m) i).length) va (upd mn k (nI (y.1 + 1))) (vp_updL lo k ((y.2.2.1) + (x.2.2.2))) (vp_updL hi k ((y.2.2.2) + ((-1) + 1))))) (f := hi) F 25 1 rfl rfl k rfl (by omega) (by decide) dX8_findGroups_199 rfl ?_
                      refine z_iinc (pc := 200) (v := nI (i + 1)) (lv' := [(0, .ref (r 0)), (1, .int (nI q)), (2, .int (nI (i + 1))), (3, .int (nI k)), (4, .long (y.2.2.1)), (6, .int 1)]) F (j := 2) dX8_findGroups_200 rfl (nI_1 _) (by decide) [1, 2, 0, 3, 4, 5] rfl ?_
                      refine z_goto (pc := 203) (tgt := 12) F dX8_findGroups_203 (by decide) ?_
                      refine z_locals (lv' := [(0, .ref (r 0)), (1, .int (nI q)), (2, .int (nI (i + 1)))]) [0, 1, 2] rfl ?_
                      have e1 := gl_s hx; rw [addG_eq x.2.2.1 x.2.2.2 (gl (fL S q e m) i) k y hy c72 hlt, show upG x.2.2.2 y = (y.1 + 1, y.2.1, ((y.2.2.1) + (x.2.2.2)), ((y.2.2.2) + ((-1) + 1))) from by simp only [upG, c151, c176, if_true, if_false]] at e1; rw [show (gl (fL S q e m) i).length = (gl (fL S q e m) (i + 1)).length from by rw [e1]; simp]; exact ih12 (i + 1) va (upd mn k (nI (y.1 + 1))) (vp_updL lo k ((y.2.2.1) + (x.2.2.2))) (vp_updL hi k ((y.2.2.2) + ((-1) + 1))) (by omega) (by omega) (by rw [e1]; exact hoG_set hG hy (y.1 + 1, y.2.1, ((y.2.2.1) + (x.2.2.2)), ((y.2.2.2) + ((-1) + 1))) rfl)
                · refine z_aload_n (pc := 76) F dX8_findGroups_76 rfl 0 rfl ?_
                  refine z_iload_n (pc := 77) F dX8_findGroups_77 rfl 3 rfl ?_
                  refine z_aload_n (pc := 78) F dX8_findGroups_78 rfl 0 rfl ?_
                  refine z_get (pc := 79) (v := .ref (r 20)) F iX8 0 rfl rfl 27 (by decide) tw_885 rfl dX8_findGroups_79 ?_
                  refine z_iload_n (pc := 82) F dX8_findGroups_82 rfl 2 rfl ?_
                  refine z_laldN (pc := 83) (f := grp1) F 20 1 rfl rfl i rfl (by omega) (by decide) dX8_findGroups_83 ?_
                  rw [show ((grp1) i) = x.2.2.1 from hgx]
                  refine z_callVW (pc := 84) (q0 := 0) (ci := 8) (rest := []) F (c_X8_openGroup l E r (mfg S hh1 ab1 f1 hg1 md1 (nI (fL S q e m).length) row1 key1 grp1 sm1 (nI (gl (fL S q e m) i).length) va mn lo hi) k (x.2.2.1) (gl (fL S q e m) i) (by omega) (by omega) rfl hG) 2 ww_Model_144 (by decide +kernel) rfl ⟨Nat.le_of_ble_eq_true rfl, Nat.le_of_ble_eq_true rfl⟩ ⟨Nat.le_of_ble_eq_true rfl, Nat.le_of_ble_eq_true rfl⟩ rfl rfl rfl rfl (Nat.le_of_ble_eq_true rfl) dX8_findGroups_84 (fun v_ w1_ hp => ?_)
                  obtain ⟨va1, mn1, lo1, hi1, rfl, rfl, h84_0⟩ := hp
                  show Z X (0) (0) (mw E r (mfg S hh1 ab1 f1 hg1 md1 (nI (fL S q e m).length) row1 key1 grp1 sm1 (nI ((gl (fL S q e m) i).length + 1)) va1 mn1 lo1 hi1)) [(0, .ref (r 0)), (1, .int (nI q)), (2, .int (nI i)), (3, .int (nI k))] 87 []
                  have hk0 : k ≤ (gl (fL S q e m) i).length := by omega
                  have hG1 := tk_at (L := (gl (fL S q e m) i)) hk0 (0, x.2.2.1, 0, 0)
                  obtain ⟨hn, -, hlo, hhi⟩ := h84_0 k _ hG1
                  refine z_aload_n (pc := 87) F dX8_findGroups_87 rfl 0 rfl ?_
                  refine z_get (pc := 88) (v := .ref (r 23)) F iX8 0 rfl rfl 31 (by decide) tw_889 rfl dX8_findGroups_88 ?_
                  refine z_iload_n (pc := 91) F dX8_findGroups_91 rfl 3 rfl ?_
                  refine z_dup2_11 (pc := 92) F dX8_findGroups_92 rfl rfl ?_
                  refine z_ialdN (pc := 93) (f := mn1) F 23 0 rfl rfl k rfl (by omega) (by decide) dX8_findGroups_93 ?_
                  rw [show ((mn1) k) = nI 0 from hn]
                  refine z_iconst (pc := 94) (v := 1) F dX8_findGroups_94 (by decide) ?_
                  refine z_iadd (pc := 95) F dX8_findGroups_95 ?_
                  rw [show ((nI 0) + 1) = nI (0 + 1) from (nI_1 _)]
                  refine z_iastN (pc := 96) (ws' := mw E r (mfg S hh1 ab1 f1 hg1 md1 (nI (fL S q e m).length) row1 key1 grp1 sm1 (nI ((gl (fL S q e m) i).length + 1)) va1 (upd mn1 k (nI (0 + 1))) lo1 hi1)) (f := mn1) F 23 0 rfl rfl k rfl (by omega) (by decide) dX8_findGroups_96 rfl ?_
                  refine z_aload_n (pc := 97) F dX8_findGroups_97 rfl 0 rfl ?_
                  refine z_get (pc := 98) (v := .ref (r 24)) F iX8 0 rfl rfl 32 (by decide) tw_890 rfl dX8_findGroups_98 ?_
                  refine z_iload_n (pc := 101) F dX8_findGroups_101 rfl 3 rfl ?_
                  refine z_laldN (pc := 102) (f := lo1) F 24 1 rfl rfl k rfl (by omega) (by decide) dX8_findGroups_102 ?_
                  rw [show ((lo1) k) = 0 from hlo]
                  refine z_lstore (pc := 103) (lv' := [(0, .ref (r 0)), (1, .int (nI q)), (2, .int (nI i)), (3, .int (nI k)), (4, .long 0)]) F dX8_findGroups_103 (by decide) [1, 2, 3, 4, 0] rfl ?_
                  refine z_aload_n (pc := 105) F dX8_findGroups_105 rfl 0 rfl ?_
                  refine z_get (pc := 106) (v := .ref (r 24)) F iX8 0 rfl rfl 32 (by decide) tw_890 rfl dX8_findGroups_106 ?_
                  refine z_iload_n (pc := 109) F dX8_findGroups_109 rfl 3 rfl ?_
                  refine z_dup2_11 (pc := 110) F dX8_findGroups_110 rfl rfl ?_
                  refine z_laldN (pc := 111) (f := lo1) F 24 1 rfl rfl k rfl (by omega) (by decide) dX8_findGroups_111 ?_
                  rw [show ((lo1) k) = 0 from hlo]
                  refine z_aload_n (pc := 112) F dX8_findGroups_112 rfl 0 rfl ?_
                  refine z_get (pc := 113) (v := .ref (r 21)) F iX8 0 rfl rfl 28 (by decide) tw_886 rfl dX8_findGroups_113 ?_
                  refine z_iload_n (pc := 116) F dX8_findGroups_116 rfl 2 rfl ?_
                  refine z_laldN (pc := 117) (f := sm1) F 21 1 rfl rfl i rfl (by omega) (by decide) dX8_findGroups_117 ?_
                  rw [show ((sm1) i) = x.2.2.2 from hsx]
                  refine z_ladd (pc := 118) F dX8_findGroups_118 ?_
                  refine z_lastN (pc := 119) (ws' := mw E r (mfg S hh1 ab1 f1 hg1 md1 (nI (fL S q e m).length) row1 key1 grp1 sm1 (nI ((gl (fL S q e m) i).length + 1)) va1 (upd mn1 k (nI (0 + 1))) (vp_updL lo1 k (0 + (x.2.2.2))) hi1)) (f := lo1) F 24 1 rfl rfl k rfl (by omega) (by decide) dX8_findGroups_119 rfl ?_
                  refine z_lload (pc := 120) F dX8_findGroups_120 4 rfl ?_
                  refine z_aload_n (pc := 122) F dX8_findGroups_122 rfl 0 rfl ?_
                  refine z_get (pc := 123) (v := .ref (r 21)) F iX8 0 rfl rfl 28 (by decide) tw_886 rfl dX8_findGroups_123 ?_
                  refine z_iload_n (pc := 126) F dX8_findGroups_126 rfl 2 rfl ?_
                  refine z_laldN (pc := 127) (f := sm1) F 21 1 rfl rfl i rfl (by omega) (by decide) dX8_findGroups_127 ?_
                  rw [show ((sm1) i) = x.2.2.2 from hsx]
                  refine z_land (pc := 128) F dX8_findGroups_128 ?_
                  refine z_lload (pc := 129) F dX8_findGroups_129 4 rfl ?_
                  refine z_aload_n (pc := 131) F dX8_findGroups_131 rfl 0 rfl ?_
                  refine z_get (pc := 132) (v := .ref (r 21)) F iX8 0 rfl rfl 28 (by decide) tw_886 rfl dX8_findGroups_132 ?_
                  refine z_iload_n (pc := 135) F dX8_findGroups_135 rfl 2 rfl ?_
                  refine z_laldN (pc := 136) (f := sm1) F 21 1 rfl rfl i rfl (by omega) (by decide) dX8_findGroups_136 ?_
                  rw [show ((sm1) i) = x.2.2.2 from hsx]
                  refine z_lor (pc := 137) F dX8_findGroups_137 ?_
                  refine z_aload_n (pc := 138) F dX8_findGroups_138 rfl 0 rfl ?_
                  refine z_get (pc := 139) (v := .ref (r 24)) F iX8 0 rfl rfl 32 (by decide) tw_890 rfl dX8_findGroups_139 ?_
                  refine z_iload_n (pc := 142) F dX8_findGroups_142 rfl 3 rfl ?_
                  refine z_laldN (pc := 143) (f := vp_updL lo1 k (0 + (x.2.2.2))) F 24 1 rfl rfl k rfl (by omega) (by decide) dX8_findGroups_143 ?_
                  rw [show ((vp_updL lo1 k (0 + (x.2.2.2))) k) = 0 + x.2.2.2 from pk_uLs]
                  refine z_ldc2 (pc := 144) F dX8_findGroups_144 tw_1012 ?_
                  refine z_lxor (pc := 147) F dX8_findGroups_147 ?_
                  refine z_land (pc := 148) F dX8_findGroups_148 ?_
                  refine z_lor (pc := 149) F dX8_findGroups_149 ?_
                  refine z_lconst (pc := 150) (v := 0) F dX8_findGroups_150 (by decide) ?_
                  refine z_l_ge (pc := 151) (tgt := 159) F dX8_findGroups_151 dX8_findGroups_152 (by decide) (fun c151 => ?_) (fun c151 => ?_)
                  · refine z_iconst (pc := 159) (v := 0) F dX8_findGroups_159 (by decide) ?_
                    refine z_istore (pc := 160) (lv' := [(0, .ref (r 0)), (1, .int (nI q)), (2, .int (nI i)), (3, .int (nI k)), (4, .long 0), (6, .int 0)]) F dX8_findGroups_160 (by decide) [1, 2, 3, 4, 5, 0] rfl ?_
                    refine z_aload_n (pc := 162) F dX8_findGroups_162 rfl 0 rfl ?_
                    refine z_get (pc := 163) (v := .ref (r 25)) F iX8 0 rfl rfl 33 (by decide) tw_891 rfl dX8_findGroups_163 ?_
                    refine z_iload_n (pc := 166) F dX8_findGroups_166 rfl 3 rfl ?_
                    refine z_dup2_11 (pc := 167) F dX8_findGroups_167 rfl rfl ?_
                    refine z_laldN (pc := 168) (f := hi1) F 25 1 rfl rfl k rfl (by omega) (by decide) dX8_findGroups_168 ?_
                    rw [show ((hi1) k) = 0 from hhi]
                    refine z_aload_n (pc := 169) F dX8_findGroups_169 rfl 0 rfl ?_
                    refine z_get (pc := 170) (v := .ref (r 21)) F iX8 0 rfl rfl 28 (by decide) tw_886 rfl dX8_findGroups_170 ?_
                    refine z_iload_n (pc := 173) F dX8_findGroups_173 rfl 2 rfl ?_
                    refine z_laldN (pc := 174) (f := sm1) F 21 1 rfl rfl i rfl (by omega) (by decide) dX8_findGroups_174 ?_
                    rw [show ((sm1) i) = x.2.2.2 from hsx]
                    refine z_lconst (pc := 175) (v := 0) F dX8_findGroups_175 (by decide) ?_
                    refine z_l_ge (pc := 176) (tgt := 186) F dX8_findGroups_176 dX8_findGroups_177 (by decide) (fun c176 => ?_) (fun c176 => ?_)
                    · refine z_lconst (pc := 186) (v := 0) F dX8_findGroups_186 (by decide) ?_
                      refine z_iload (pc := 187) F dX8_findGroups_187 5 rfl ?_
                      refine z_if_eq (pc := 189) (tgt := 196) F dX8_findGroups_189 (by decide) (fun _ => ?_) (fun h => absurd h (by decide))
                      refine z_lconst (pc := 196) (v := 0) F dX8_findGroups_196 (by decide) ?_
                      refine z_ladd (pc := 197) F dX8_findGroups_197 ?_
                      refine z_ladd (pc := 198) F dX8_findGroups_198 ?_
                      refine z_lastN (pc := 199) (ws' := mw E r (mfg S hh1 ab1 f1 hg1 md1 (nI (fL S q e m).length) row1 key1 grp1 sm1 (nI ((gl (fL S q e m) i).length + 1)) va1 (upd mn1 k (nI (0 + 1))) (vp_updL lo1 k (0 + (x.2.2.2))) (vp_updL hi1 k (0 + (0 + 0))))) (f := hi1) F 25 1 rfl rfl k rfl (by omega) (by decide) dX8_findGroups_199 rfl ?_
                      refine z_iinc (pc := 200) (v := nI (i + 1)) (lv' := [(0, .ref (r 0)), (1, .int (nI q)), (2, .int (nI (i + 1))), (3, .int (nI k)), (4, .long 0), (6, .int 0)]) F (j := 2) dX8_findGroups_200 rfl (nI_1 _) (by decide) [1, 2, 0, 3, 4, 5] rfl ?_
                      refine z_goto (pc := 203) (tgt := 12) F dX8_findGroups_203 (by decide) ?_
                      refine z_locals (lv' := [(0, .ref (r 0)), (1, .int (nI q)), (2, .int (nI (i + 1)))]) [0, 1, 2] rfl ?_
                      have e1 := gl_s hx; rw [addG_open x.2.2.1 x.2.2.2 (gl (fL S q e m) i) k hk0 hlt (fun y2 hy2 => by rw [hy] at hy2; cases hy2; exact i64ltn c42 c72), show upG x.2.2.2 (0, x.2.2.1, 0, 0) = (0 + 1, x.2.2.1, (0 + (x.2.2.2)), (0 + (0 + 0))) from by simp only [upG, c151, c176, if_true, if_false]] at e1; rw [show (gl (fL S q e m) i).length + 1 = (gl (fL S q e m) (i + 1)).length from by rw [e1]; simp; omega]; exact ih12 (i + 1) va1 (upd mn1 k (nI (0 + 1))) (vp_updL lo1 k (0 + (x.2.2.2))) (vp_updL hi1 k (0 + (0 + 0))) (by omega) (by omega) (by rw [e1]; exact hoG_set h84_0 hG1 (0 + 1, x.2.2.1, (0 + (x.2.2.2)), (0 + (0 + 0))) rfl)
                    · refine z_ldc2 (pc := 180) F dX8_findGroups_180 tw_1012 ?_
                      refine z_goto (pc := 183) (tgt := 187) F dX8_findGroups_183 (by decide) ?_
                      refine z_iload (pc := 187) F dX8_findGroups_187 5 rfl ?_
                      refine z_if_eq (pc := 189) (tgt := 196) F dX8_findGroups_189 (by decide) (fun _ => ?_) (fun h => absurd h (by decide))
                      refine z_lconst (pc := 196) (v := 0) F dX8_findGroups_196 (by decide) ?_
                      refine z_ladd (pc := 197) F dX8_findGroups_197 ?_
                      refine z_ladd (pc := 198) F dX8_findGroups_198 ?_
                      refine z_lastN (pc := 199) (ws' := mw E r (mfg S hh1 ab1 f1 hg1 md1 (nI (fL S q e m).length) row1 key1 grp1 sm1 (nI ((gl (fL S q e m) i).length + 1)) va1 (upd mn1 k (nI (0 + 1))) (vp_updL lo1 k (0 + (x.2.2.2))) (vp_updL hi1 k (0 + ((-1) + 0))))) (f := hi1) F 25 1 rfl rfl k rfl (by omega) (by decide) dX8_findGroups_199 rfl ?_
                      refine z_iinc (pc := 200) (v := nI (i + 1)) (lv' := [(0, .ref (r 0)), (1, .int (nI q)), (2, .int (nI (i + 1))), (3, .int (nI k)), (4, .long 0), (6, .int 0)]) F (j := 2) dX8_findGroups_200 rfl (nI_1 _) (by decide) [1, 2, 0, 3, 4, 5] rfl ?_
                      refine z_goto (pc := 203) (tgt := 12) F dX8_findGroups_203 (by decide) ?_
                      refine z_locals (lv' := [(0, .ref (r 0)), (1, .int (nI q)), (2, .int (nI (i + 1)))]) [0, 1, 2] rfl ?_
                      have e1 := gl_s hx; rw [addG_open x.2.2.1 x.2.2.2 (gl (fL S q e m) i) k hk0 hlt (fun y2 hy2 => by rw [hy] at hy2; cases hy2; exact i64ltn c42 c72), show upG x.2.2.2 (0, x.2.2.1, 0, 0) = (0 + 1, x.2.2.1, (0 + (x.2.2.2)), (0 + ((-1) + 0))) from by simp only [upG, c151, c176, if_true, if_false]] at e1; rw [show (gl (fL S q e m) i).length + 1 = (gl (fL S q e m) (i + 1)).length from by rw [e1]; simp; omega]; exact ih12 (i + 1) va1 (upd mn1 k (nI (0 + 1))) (vp_updL lo1 k (0 + (x.2.2.2))) (vp_updL hi1 k (0 + ((-1) + 0))) (by omega) (by omega) (by rw [e1]; exact hoG_set h84_0 hG1 (0 + 1, x.2.2.1, (0 + (x.2.2.2)), (0 + ((-1) + 0))) rfl)
                  · refine z_iconst (pc := 155) (v := 1) F dX8_findGroups_155 (by decide) ?_
                    refine z_goto (pc := 156) (tgt := 160) F dX8_findGroups_156 (by decide) ?_
                    refine z_istore (pc := 160) (lv' := [(0, .ref (r 0)), (1, .int (nI q)), (2, .int (nI i)), (3, .int (nI k)), (4, .long 0), (6, .int 1)]) F dX8_findGroups_160 (by decide) [1, 2, 3, 4, 5, 0] rfl ?_
                    refine z_aload_n (pc := 162) F dX8_findGroups_162 rfl 0 rfl ?_
                    refine z_get (pc := 163) (v := .ref (r 25)) F iX8 0 rfl rfl 33 (by decide) tw_891 rfl dX8_findGroups_163 ?_
                    refine z_iload_n (pc := 166) F dX8_findGroups_166 rfl 3 rfl ?_
                    refine z_dup2_11 (pc := 167) F dX8_findGroups_167 rfl rfl ?_
                    refine z_laldN (pc := 168) (f := hi1) F 25 1 rfl rfl k rfl (by omega) (by decide) dX8_findGroups_168 ?_
                    rw [show ((hi1) k) = 0 from hhi]
                    refine z_aload_n (pc := 169) F dX8_findGroups_169 rfl 0 rfl ?_
                    refine z_get (pc := 170) (v := .ref (r 21)) F iX8 0 rfl rfl 28 (by decide) tw_886 rfl dX8_findGroups_170 ?_
                    refine z_iload_n (pc := 173) F dX8_findGroups_173 rfl 2 rfl ?_
                    refine z_laldN (pc := 174) (f := sm1) F 21 1 rfl rfl i rfl (by omega) (by decide) dX8_findGroups_174 ?_
                    rw [show ((sm1) i) = x.2.2.2 from hsx]
                    refine z_lconst (pc := 175) (v := 0) F dX8_findGroups_175 (by decide) ?_
                    refine z_l_ge (pc := 176) (tgt := 186) F dX8_findGroups_176 dX8_findGroups_177 (by decide) (fun c176 => ?_) (fun c176 => ?_)
                    · refine z_lconst (pc := 186) (v := 0) F dX8_findGroups_186 (by decide) ?_
                      refine z_iload (pc := 187) F dX8_findGroups_187 5 rfl ?_
                      refine z_if_eq (pc := 189) (tgt := 196) F dX8_findGroups_189 (by decide) (fun h => absurd h (by decide)) (fun _ => ?_)
                      refine z_lconst (pc := 192) (v := 1) F dX8_findGroups_192 (by decide) ?_
                      refine z_goto (pc := 193) (tgt := 197) F dX8_findGroups_193 (by decide) ?_
                      refine z_ladd (pc := 197) F dX8_findGroups_197 ?_
                      refine z_ladd (pc := 198) F dX8_findGroups_198 ?_
                      refine z_lastN (pc := 199) (ws' := mw E r (mfg S hh1 ab1 f1 hg1 md1 (nI (fL S q e m).length) row1 key1 grp1 sm1 (nI ((gl (fL S q e m) i).length + 1)) va1 (upd mn1 k (nI (0 + 1))) (vp_updL lo1 k (0 + (x.2.2.2))) (vp_updL hi1 k (0 + (0 + 1))))) (f := hi1) F 25 1 rfl rfl k rfl (by omega) (by decide) dX8_findGroups_199 rfl ?_
                      refine z_iinc (pc := 200) (v := nI (i + 1)) (lv' := [(0, .ref (r 0)), (1, .int (nI q)), (2, .int (nI (i + 1))), (3, .int (nI k)), (4, .long 0), (6, .int 1)]) F (j := 2) dX8_findGroups_200 rfl (nI_1 _) (by decide) [1, 2, 0, 3, 4, 5] rfl ?_
                      refine z_goto (pc := 203) (tgt := 12) F dX8_findGroups_203 (by decide) ?_
                      refine z_locals (lv' := [(0, .ref (r 0)), (1, .int (nI q)), (2, .int (nI (i + 1)))]) [0, 1, 2] rfl ?_
                      have e1 := gl_s hx; rw [addG_open x.2.2.1 x.2.2.2 (gl (fL S q e m) i) k hk0 hlt (fun y2 hy2 => by rw [hy] at hy2; cases hy2; exact i64ltn c42 c72), show upG x.2.2.2 (0, x.2.2.1, 0, 0) = (0 + 1, x.2.2.1, (0 + (x.2.2.2)), (0 + (0 + 1))) from by simp only [upG, c151, c176, if_true, if_false]] at e1; rw [show (gl (fL S q e m) i).length + 1 = (gl (fL S q e m) (i + 1)).length from by rw [e1]; simp; omega]; exact ih12 (i + 1) va1 (upd mn1 k (nI (0 + 1))) (vp_updL lo1 k (0 + (x.2.2.2))) (vp_updL hi1 k (0 + (0 + 1))) (by omega) (by omega) (by rw [e1]; exact hoG_set h84_0 hG1 (0 + 1, x.2.2.1, (0 + (x.2.2.2)), (0 + (0 + 1))) rfl)
                    · refine z_ldc2 (pc := 180) F dX8_findGroups_180 tw_1012 ?_
                      refine z_goto (pc := 183) (tgt := 187) F dX8_findGroups_183 (by decide) ?_
                      refine z_iload (pc := 187) F dX8_findGroups_187 5 rfl ?_
                      refine z_if_eq (pc := 189) (tgt := 196) F dX8_findGroups_189 (by decide) (fun h => absurd h (by decide)) (fun _ => ?_)
                      refine z_lconst (pc := 192) (v := 1) F dX8_findGroups_192 (by decide) ?_
                      refine z_goto (pc := 193) (tgt := 197) F dX8_findGroups_193 (by decide) ?_
                      refine z_ladd (pc := 197) F dX8_findGroups_197 ?_
                      refine z_ladd (pc := 198) F dX8_findGroups_198 ?_
                      refine z_lastN (pc := 199) (ws' := mw E r (mfg S hh1 ab1 f1 hg1 md1 (nI (fL S q e m).length) row1 key1 grp1 sm1 (nI ((gl (fL S q e m) i).length + 1)) va1 (upd mn1 k (nI (0 + 1))) (vp_updL lo1 k (0 + (x.2.2.2))) (vp_updL hi1 k (0 + ((-1) + 1))))) (f := hi1) F 25 1 rfl rfl k rfl (by omega) (by decide) dX8_findGroups_199 rfl ?_
                      refine z_iinc (pc := 200) (v := nI (i + 1)) (lv' := [(0, .ref (r 0)), (1, .int (nI q)), (2, .int (nI (i + 1))), (3, .int (nI k)), (4, .long 0), (6, .int 1)]) F (j := 2) dX8_findGroups_200 rfl (nI_1 _) (by decide) [1, 2, 0, 3, 4, 5] rfl ?_
                      refine z_goto (pc := 203) (tgt := 12) F dX8_findGroups_203 (by decide) ?_
                      refine z_locals (lv' := [(0, .ref (r 0)), (1, .int (nI q)), (2, .int (nI (i + 1)))]) [0, 1, 2] rfl ?_
                      have e1 := gl_s hx; rw [addG_open x.2.2.1 x.2.2.2 (gl (fL S q e m) i) k hk0 hlt (fun y2 hy2 => by rw [hy] at hy2; cases hy2; exact i64ltn c42 c72), show upG x.2.2.2 (0, x.2.2.1, 0, 0) = (0 + 1, x.2.2.1, (0 + (x.2.2.2)), (0 + ((-1) + 1))) from by simp only [upG, c151, c176, if_true, if_false]] at e1; rw [show (gl (fL S q e m) i).length + 1 = (gl (fL S q e m) (i + 1)).length from by rw [e1]; simp; omega]; exact ih12 (i + 1) va1 (upd mn1 k (nI (0 + 1))) (vp_updL lo1 k (0 + (x.2.2.2))) (vp_updL hi1 k (0 + ((-1) + 1))) (by omega) (by omega) (by rw [e1]; exact hoG_set h84_0 hG1 (0 + 1, x.2.2.1, (0 + (x.2.2.2)), (0 + ((-1) + 1))) rfl)
              · refine z_iinc (pc := 46) (v := nI (k + 1)) (lv' := [(0, .ref (r 0)), (1, .int (nI q)), (2, .int (nI i)), (3, .int (nI (k + 1)))]) F (j := 3) dX8_findGroups_46 rfl (nI_1 _) (by decide) [1, 2, 3, 0] rfl ?_
                refine z_goto (pc := 49) (tgt := 22) F dX8_findGroups_49 (by decide) ?_
                exact ih22 (k + 1) (by omega) (by omega) (fun j z hz hj => by
      rcases Nat.lt_or_ge j k with w | w
      · exact hlt j z hz w
      · have e0 : j = k := by omega
        subst e0; rw [hy] at hz; cases hz; exact i64lt c42)
        exact L22 _ 0 (Nat.lt_succ_self _) (Nat.zero_le _) (fun j y hy hj => absurd hj (Nat.not_lt_zero _))
  exact L12 _ 0 (zb S 22) (za S 23) (zb S 24) (zb S 25) (Nat.lt_succ_self _) (Nat.zero_le _) (fun i x hx => by simp [gl] at hx)

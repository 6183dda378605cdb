set_option maxHeartbeats 4000000 in
set_option maxRecDepth 100000 in
theorem c_X8_find (l : Launch) (E : zE) (r : Nat → Nat) (S : zS) (q : Nat) (e : Nat → Nat) (m : Nat) (hq : q < 6) (hm : m ≤ 60) (hmo : zi S 2 = nI m) (hqo : qok S q e) (ho : objOk S) : Ct l yX8_find cX8_find 4 (none) ({ frames := 4, cells := 0, slots := 0, locals := 120 } : Room) E (mw E r S) [.ref (r 0), .int (nI q)] (fun v_ w_ => ∃ hh : Int32, ∃ ab : Int32, ∃ f : Nat → Int64, ∃ hg : Nat → Int32, ∃ md : Nat → Int64, ∃ row : Nat → Int32, ∃ key : Nat → Int64, ∃ grp : Nat → Int64, ∃ sm : Nat → Int64, v_ = none ∧ w_ = mw E r (mfd S hh ab f hg md (nI (fl S q e m).length) row key grp sm) ∧ (hoR (fl S q e m) row key grp sm)) := by
  refine Ct.of (by decide) (Nat.le_of_ble_eq_true rfl) (lv := [(0, .ref (r 0)), (1, .int (nI q))]) rfl ?_
  intro X F hR
  have F : zF X l ({ frames := 4, cells := 0, slots := 0, locals := 120 } : Room) E cX8_find 4 "LiveQueriesModel" := F
  show Z X 0 0 (mw E r (mfd S (zi S 5) (zi S 6) (zb S 15) (za S 16) (zb S 17) (zi S 7) (za S 18) (zb S 19) (zb S 20) (zb S 21))) [(0, .ref (r 0)), (1, .int (nI q))] 0 []
  refine z_aload_n (pc := 0) F dX8_find_0 rfl 0 rfl ?_
  refine z_iconst (pc := 1) (v := 0) F dX8_find_1 (by decide) ?_
  refine z_put (pc := 2) (ws' := mw E r (mfd S (zi S 5) (zi S 6) (zb S 15) (za S 16) (zb S 17) 0 (za S 18) (zb S 19) (zb S 20) (zb S 21))) F iX8 tyX8 tyX8_ok nmX8 0 rfl rfl 24 (by decide) tw_882 rfl rfl rfl (Nat.le_of_ble_eq_true rfl) dX8_find_2 rfl ?_
  refine z_iconst (pc := 5) (v := 0) F dX8_find_5 (by decide) ?_
  refine z_istore_n (pc := 6) (lv' := [(0, .ref (r 0)), (1, .int (nI q)), (2, .int 0)]) F dX8_find_6 rfl (by decide) [1, 2, 0] rfl ?_
  have L7 : ∀ (N : Nat) (o : Nat) (hh : Int32) (ab : Int32) (f : Nat → Int64) (hg : Nat → Int32) (md : Nat → Int64) (row : Nat → Int32) (key : Nat → Int64) (grp : Nat → Int64) (sm : Nat → Int64), (m - o) < N → (o ≤ m) → (hoR (fl S q e o) row key grp sm) → Z X (0) (0) (mw E r (mfd S hh ab f hg md (nI (fl S q e o).length) row key grp sm)) [(0, .ref (r 0)), (1, .int (nI q)), (2, .int (nI o))] 7 [] := by
    intro N
    induction N with
    | zero => intro o hh ab f hg md row key grp sm hN; exact absurd hN (Nat.not_lt_zero _)
    | succ N ih7 =>
      intro o hh ab f hg md row key grp sm hN hom hho
      refine z_iload_n (pc := 7) F dX8_find_7 rfl 2 rfl ?_
      refine z_aload_n (pc := 8) F dX8_find_8 rfl 0 rfl ?_
      refine z_get (pc := 9) (v := .int (zi S 2)) F iX8 0 rfl rfl 3 (by decide) tw_861 rfl dX8_find_9 ?_
      rw [show (zi S 2) = nI m from hmo]
      refine z_icmp_ge (pc := 12) (tgt := 199) F dX8_find_12 (by decide) (fun c12 => ?_) (fun c12 => ?_)
      · have hoe : o = m := Nat.le_antisymm hom (gI (by omega) (by omega) c12)
        subst hoe
        exact z_vret (pc := 199) F hR dX8_find_199 (Nat.le_of_ble_eq_true rfl) (Nat.le_of_ble_eq_true rfl) ⟨hh, ab, f, hg, md, row, key, grp, sm, rfl, rfl, hho⟩
      · have hom2 := ngI (by omega) (by omega) c12
        have hfl := fl_len S q e o
        refine z_aload_n (pc := 15) F dX8_find_15 rfl 0 rfl ?_
        refine z_get (pc := 16) (v := .ref (r 2)) F iX8 0 rfl rfl 4 (by decide) tw_862 rfl dX8_find_16 ?_
        refine z_iload_n (pc := 19) F dX8_find_19 rfl 2 rfl ?_
        refine z_zaldN (pc := 20) (f := za S 2) F 2 2 rfl rfl o rfl (by omega) (by decide) dX8_find_20 ?_
        refine z_if_eq (pc := 21) (tgt := 193) F dX8_find_21 (by decide) (fun c21 => ?_) (fun c21 => ?_)
        · refine z_iinc (pc := 193) (v := nI (o + 1)) (lv' := [(0, .ref (r 0)), (1, .int (nI q)), (2, .int (nI (o + 1)))]) F (j := 2) dX8_find_193 rfl (nI_1 _) (by decide) [1, 2, 0] rfl ?_
          refine z_goto (pc := 196) (tgt := 7) F dX8_find_196 (by decide) ?_
          have e1 := fl_no (S := S) (q := q) (e := e) (o := o) (by first | (simp [sel, c21]; done) | (simp [sel, c36]; done) | (simp [sel, c45]; done)); rw [← e1]; exact ih7 (o + 1) hh ab f hg md row key grp sm (by omega) (by omega) (by rw [e1]; exact hho)
        · refine z_aload_n (pc := 24) F dX8_find_24 rfl 0 rfl ?_
          refine z_get (pc := 25) (v := .ref (r 3)) F iX8 0 rfl rfl 5 (by decide) tw_863 rfl dX8_find_25 ?_
          refine z_iload_n (pc := 28) F dX8_find_28 rfl 2 rfl ?_
          refine z_ialdN (pc := 29) (f := za S 3) F 3 0 rfl rfl o rfl (by omega) (by decide) dX8_find_29 ?_
          refine z_aload_n (pc := 30) F dX8_find_30 rfl 0 rfl ?_
          refine z_get (pc := 31) (v := .ref (r 8)) F iX8 0 rfl rfl 11 (by decide) tw_869 rfl dX8_find_31 ?_
          refine z_iload_n (pc := 34) F dX8_find_34 rfl 1 rfl ?_
          refine z_ialdN (pc := 35) (f := za S 8) F 8 0 rfl rfl q rfl (by omega) (by decide) dX8_find_35 ?_
          refine z_icmp_ne (pc := 36) (tgt := 193) F dX8_find_36 (by decide) (fun c36 => ?_) (fun c36 => ?_)
          · refine z_iinc (pc := 193) (v := nI (o + 1)) (lv' := [(0, .ref (r 0)), (1, .int (nI q)), (2, .int (nI (o + 1)))]) F (j := 2) dX8_find_193 rfl (nI_1 _) (by decide) [1, 2, 0] rfl ?_
            refine z_goto (pc := 196) (tgt := 7) F dX8_find_196 (by decide) ?_
            have e1 := fl_no (S := S) (q := q) (e := e) (o := o) (by first | (simp [sel, c21]; done) | (simp [sel, c36]; done) | (simp [sel, c45]; done)); rw [← e1]; exact ih7 (o + 1) hh ab f hg md row key grp sm (by omega) (by omega) (by rw [e1]; exact hho)
          · refine z_aload_n (pc := 39) F dX8_find_39 rfl 0 rfl ?_
            refine z_iload_n (pc := 40) F dX8_find_40 rfl 1 rfl ?_
            refine z_iload_n (pc := 41) F dX8_find_41 rfl 2 rfl ?_
            refine z_callVW (pc := 42) (q0 := 0) (ci := 8) (rest := []) F (c_X8_work2 l E r (mfd S hh ab f hg md (nI (fl S q e o).length) row key grp sm) q o e hq (by omega) (qok_of (S := S) (S' := (mfd S hh ab f hg md (nI (fl S q e o).length) row key grp sm)) rfl rfl hqo) ho) 2 ww_Model_133 (by decide +kernel) rfl ⟨Nat.le_of_ble_eq_true rfl, Nat.le_of_ble_eq_true rfl⟩ ⟨Nat.le_of_ble_eq_true rfl, Nat.le_of_ble_eq_true rfl⟩ rfl rfl rfl rfl (Nat.le_of_ble_eq_true rfl) dX8_find_42 (fun v_ w1_ hp => ?_)
            obtain ⟨hh1, ab1, f1, hg1, md1, rfl, rfl, h42_0, h42_1⟩ := hp
            show Z X (0) (0) (mw E r (mfd S hh1 ab1 f1 hg1 md1 (nI (fl S q e o).length) row key grp sm)) [(0, .ref (r 0)), (1, .int (nI q)), (2, .int (nI o))] 45 [.int (bI (wIn S o e))]
            have h42_0 : ∀ i : Nat, i < 4 → md1 i = wCm S o e i := h42_0
            refine z_if_ne (pc := 45) (tgt := 51) F dX8_find_45 (by decide) (fun c45 => ?_) (fun c45 => ?_)
            · replace c45 := bI_t c45
              refine z_aload_n (pc := 51) F dX8_find_51 rfl 0 rfl ?_
              refine z_get (pc := 52) (v := .int (nI (fl S q e o).length)) F iX8 0 rfl rfl 24 (by decide) tw_882 rfl dX8_find_52 ?_
              refine z_istore_n (pc := 55) (lv' := [(0, .ref (r 0)), (1, .int (nI q)), (2, .int (nI o)), (3, .int (nI (fl S q e o).length))]) F dX8_find_55 rfl (by decide) [1, 2, 3, 0] rfl ?_
              have L56 : ∀ (N : Nat) (k : Nat) (row' : Nat → Int32) (key' : Nat → Int64) (grp' : Nat → Int64) (sm' : Nat → Int64), k < N → (k ≤ (fl S q e o).length) → (shR (fl S q e o) k row' key' grp' sm') → (∀ i y, (fl S q e o)[i]? = some y → k ≤ i → (rowOf S e o).2.1 < y.2.1) → Z X (0) (0) (mw E r (mfd S hh1 ab1 f1 hg1 md1 (nI (fl S q e o).length) row' key' grp' sm')) [(0, .ref (r 0)), (1, .int (nI q)), (2, .int (nI o)), (3, .int (nI k))] 56 [] := by
                intro N
                induction N with
                | zero => intro k row' key' grp' sm' hN; exact absurd hN (Nat.not_lt_zero _)
                | succ N ih56 =>
                  intro k row' key' grp' sm' hN hk hsh hgt
                  refine z_iload_n (pc := 56) F dX8_find_56 rfl 3 rfl ?_
                  refine z_if_le (pc := 57) (tgt := 140) F dX8_find_57 (by decide) (fun c57 => ?_) (fun c57 => ?_)
                  · have hk0 := nI_le0 (by omega) c57
                    have hin := shR_in (k := k) hsh (by omega) (fl_srt S q e o) (rowOf S e o) (fun j y hy hj => absurd hj (by omega)) hgt
                    refine z_aload_n (pc := 140) F dX8_find_140 rfl 0 rfl ?_
                    refine z_get (pc := 141) (v := .ref (r 18)) F iX8 0 rfl rfl 25 (by decide) tw_883 rfl dX8_find_141 ?_
                    refine z_iload_n (pc := 144) F dX8_find_144 rfl 3 rfl ?_
                    refine z_iload_n (pc := 145) F dX8_find_145 rfl 2 rfl ?_
                    refine z_iastN (pc := 146) (ws' := mw E r (mfd S hh1 ab1 f1 hg1 md1 (nI (fl S q e o).length) (upd row' k (nI o)) key' grp' sm')) (f := row') F 18 0 rfl rfl k rfl (by omega) (by decide) dX8_find_146 rfl ?_
                    refine z_aload_n (pc := 147) F dX8_find_147 rfl 0 rfl ?_
                    refine z_get (pc := 148) (v := .ref (r 19)) F iX8 0 rfl rfl 26 (by decide) tw_884 rfl dX8_find_148 ?_
                    refine z_iload_n (pc := 151) F dX8_find_151 rfl 3 rfl ?_
                    refine z_aload_n (pc := 152) F dX8_find_152 rfl 0 rfl ?_
                    refine z_get (pc := 153) (v := .ref (r 17)) F iX8 0 rfl rfl 23 (by decide) tw_881 rfl dX8_find_153 ?_
                    refine z_iconst (pc := 156) (v := 1) F dX8_find_156 (by decide) ?_
                    refine z_laldN (pc := 157) (f := md1) F 17 1 rfl rfl 1 (by decide) (by omega) (by decide) dX8_find_157 ?_
                    rw [show ((md1) 1) = wCm S o e 1 from (h42_0 1 (by decide))]
                    refine z_lastN (pc := 158) (ws' := mw E r (mfd S hh1 ab1 f1 hg1 md1 (nI (fl S q e o).length) (upd row' k (nI o)) (vp_updL key' k (wCm S o e 1)) grp' sm')) (f := key') F 19 1 rfl rfl k rfl (by omega) (by decide) dX8_find_158 rfl ?_
                    refine z_aload_n (pc := 159) F dX8_find_159 rfl 0 rfl ?_
                    refine z_get (pc := 160) (v := .ref (r 20)) F iX8 0 rfl rfl 27 (by decide) tw_885 rfl dX8_find_160 ?_
                    refine z_iload_n (pc := 163) F dX8_find_163 rfl 3 rfl ?_
                    refine z_aload_n (pc := 164) F dX8_find_164 rfl 0 rfl ?_
                    refine z_get (pc := 165) (v := .ref (r 17)) F iX8 0 rfl rfl 23 (by decide) tw_881 rfl dX8_find_165 ?_
                    refine z_iconst (pc := 168) (v := 2) F dX8_find_168 (by decide) ?_
                    refine z_laldN (pc := 169) (f := md1) F 17 1 rfl rfl 2 (by decide) (by omega) (by decide) dX8_find_169 ?_
                    rw [show ((md1) 2) = wCm S o e 2 from (h42_0 2 (by decide))]
                    refine z_lastN (pc := 170) (ws' := mw E r (mfd S hh1 ab1 f1 hg1 md1 (nI (fl S q e o).length) (upd row' k (nI o)) (vp_updL key' k (wCm S o e 1)) (vp_updL grp' k (wCm S o e 2)) sm')) (f := grp') F 20 1 rfl rfl k rfl (by omega) (by decide) dX8_find_170 rfl ?_
                    refine z_aload_n (pc := 171) F dX8_find_171 rfl 0 rfl ?_
                    refine z_get (pc := 172) (v := .ref (r 21)) F iX8 0 rfl rfl 28 (by decide) tw_886 rfl dX8_find_172 ?_
                    refine z_iload_n (pc := 175) F dX8_find_175 rfl 3 rfl ?_
                    refine z_aload_n (pc := 176) F dX8_find_176 rfl 0 rfl ?_
                    refine z_get (pc := 177) (v := .ref (r 17)) F iX8 0 rfl rfl 23 (by decide) tw_881 rfl dX8_find_177 ?_
                    refine z_iconst (pc := 180) (v := 3) F dX8_find_180 (by decide) ?_
                    refine z_laldN (pc := 181) (f := md1) F 17 1 rfl rfl 3 (by decide) (by omega) (by decide) dX8_find_181 ?_
                    rw [show ((md1) 3) = wCm S o e 3 from (h42_0 3 (by decide))]
                    refine z_lastN (pc := 182) (ws' := mw E r (mfd S hh1 ab1 f1 hg1 md1 (nI (fl S q e o).length) (upd row' k (nI o)) (vp_updL key' k (wCm S o e 1)) (vp_updL grp' k (wCm S o e 2)) (vp_updL sm' k (wCm S o e 3)))) (f := sm') F 21 1 rfl rfl k rfl (by omega) (by decide) dX8_find_182 rfl ?_
                    refine z_aload_n (pc := 183) F dX8_find_183 rfl 0 rfl ?_
                    refine z_dup (pc := 184) F dX8_find_184 rfl ?_
                    refine z_get (pc := 185) (v := .int (nI (fl S q e o).length)) F iX8 0 rfl rfl 24 (by decide) tw_882 rfl dX8_find_185 ?_
                    refine z_iconst (pc := 188) (v := 1) F dX8_find_188 (by decide) ?_
                    refine z_iadd (pc := 189) F dX8_find_189 ?_
                    rw [show ((nI (fl S q e o).length) + 1) = nI ((fl S q e o).length + 1) from nI_1 _]
                    refine z_put (pc := 190) (ws' := mw E r (mfd S hh1 ab1 f1 hg1 md1 (nI ((fl S q e o).length + 1)) (upd row' k (nI o)) (vp_updL key' k (wCm S o e 1)) (vp_updL grp' k (wCm S o e 2)) (vp_updL sm' k (wCm S o e 3)))) F iX8 tyX8 tyX8_ok nmX8 0 rfl rfl 24 (by decide) tw_882 rfl rfl rfl (Nat.le_of_ble_eq_true rfl) dX8_find_190 rfl ?_
                    refine z_iinc (pc := 193) (v := nI (o + 1)) (lv' := [(0, .ref (r 0)), (1, .int (nI q)), (2, .int (nI (o + 1))), (3, .int (nI k))]) F (j := 2) dX8_find_193 rfl (nI_1 _) (by decide) [1, 2, 0, 3] rfl ?_
                    refine z_goto (pc := 196) (tgt := 7) F dX8_find_196 (by decide) ?_
                    refine z_locals (lv' := [(0, .ref (r 0)), (1, .int (nI q)), (2, .int (nI (o + 1)))]) [0, 1, 2] rfl ?_
                    have e1 := fl_yes (S := S) (q := q) (e := e) (o := o) (by simp [sel, c21, c36, c45]); rw [show (fl S q e o).length + 1 = (fl S q e (o + 1)).length from by rw [e1, insS_len]]; exact ih7 (o + 1) hh1 ab1 f1 hg1 md1 (upd row' k (nI o)) (vp_updL key' k (wCm S o e 1)) (vp_updL grp' k (wCm S o e 2)) (vp_updL sm' k (wCm S o e 3)) (by omega) (by omega) (by rw [e1]; exact hin)
                  · obtain ⟨k', rfl⟩ := nI_gt0 (by omega) c57
                    refine z_aload_n (pc := 60) F dX8_find_60 rfl 0 rfl ?_
                    refine z_get (pc := 61) (v := .ref (r 19)) F iX8 0 rfl rfl 26 (by decide) tw_884 rfl dX8_find_61 ?_
                    refine z_iload_n (pc := 64) F dX8_find_64 rfl 3 rfl ?_
                    refine z_iconst (pc := 65) (v := 1) F dX8_find_65 (by decide) ?_
                    refine z_isub (pc := 66) F dX8_find_66 ?_
                    rw [show ((nI (k' + 1)) - 1) = nI k' from (nI_pred k')]
                    refine z_laldN (pc := 67) (f := key') F 19 1 rfl rfl k' rfl (by omega) (by decide) dX8_find_67 ?_
                    refine z_aload_n (pc := 68) F dX8_find_68 rfl 0 rfl ?_
                    refine z_get (pc := 69) (v := .ref (r 17)) F iX8 0 rfl rfl 23 (by decide) tw_881 rfl dX8_find_69 ?_
                    refine z_iconst (pc := 72) (v := 1) F dX8_find_72 (by decide) ?_
                    refine z_laldN (pc := 73) (f := md1) F 17 1 rfl rfl 1 (by decide) (by omega) (by decide) dX8_find_73 ?_
                    rw [show ((md1) 1) = wCm S o e 1 from (h42_0 1 (by decide))]
                    refine z_l_le (pc := 74) (tgt := 140) F dX8_find_74 dX8_find_75 (by decide) (fun c74 => ?_) (fun c74 => ?_)
                    · have hin := shR_in (k := (k' + 1)) hsh (by omega) (fl_srt S q e o) (rowOf S e o) (fun j y hy hj => by obtain ⟨-, hkey, -⟩ := (hsh j y hy).1 (by omega); have hj2 : j = k' := (by omega); subst hj2; rw [← hkey]; exact c74) hgt
                      refine z_aload_n (pc := 140) F dX8_find_140 rfl 0 rfl ?_
                      refine z_get (pc := 141) (v := .ref (r 18)) F iX8 0 rfl rfl 25 (by decide) tw_883 rfl dX8_find_141 ?_
                      refine z_iload_n (pc := 144) F dX8_find_144 rfl 3 rfl ?_
                      refine z_iload_n (pc := 145) F dX8_find_145 rfl 2 rfl ?_
                      refine z_iastN (pc := 146) (ws' := mw E r (mfd S hh1 ab1 f1 hg1 md1 (nI (fl S q e o).length) (upd row' (k' + 1) (nI o)) key' grp' sm')) (f := row') F 18 0 rfl rfl (k' + 1) rfl (by omega) (by decide) dX8_find_146 rfl ?_
                      refine z_aload_n (pc := 147) F dX8_find_147 rfl 0 rfl ?_
                      refine z_get (pc := 148) (v := .ref (r 19)) F iX8 0 rfl rfl 26 (by decide) tw_884 rfl dX8_find_148 ?_
                      refine z_iload_n (pc := 151) F dX8_find_151 rfl 3 rfl ?_
                      refine z_aload_n (pc := 152) F dX8_find_152 rfl 0 rfl ?_
                      refine z_get (pc := 153) (v := .ref (r 17)) F iX8 0 rfl rfl 23 (by decide) tw_881 rfl dX8_find_153 ?_
                      refine z_iconst (pc := 156) (v := 1) F dX8_find_156 (by decide) ?_
                      refine z_laldN (pc := 157) (f := md1) F 17 1 rfl rfl 1 (by decide) (by omega) (by decide) dX8_find_157 ?_
                      rw [show ((md1) 1) = wCm S o e 1 from (h42_0 1 (by decide))]
                      refine z_lastN (pc := 158) (ws' := mw E r (mfd S hh1 ab1 f1 hg1 md1 (nI (fl S q e o).length) (upd row' (k' + 1) (nI o)) (vp_updL key' (k' + 1) (wCm S o e 1)) grp' sm')) (f := key') F 19 1 rfl rfl (k' + 1) rfl (by omega) (by decide) dX8_find_158 rfl ?_
                      refine z_aload_n (pc := 159) F dX8_find_159 rfl 0 rfl ?_
                      refine z_get (pc := 160) (v := .ref (r 20)) F iX8 0 rfl rfl 27 (by decide) tw_885 rfl dX8_find_160 ?_
                      refine z_iload_n (pc := 163) F dX8_find_163 rfl 3 rfl ?_
                      refine z_aload_n (pc := 164) F dX8_find_164 rfl 0 rfl ?_
                      refine z_get (pc := 165) (v := .ref (r 17)) F iX8 0 rfl rfl 23 (by decide) tw_881 rfl dX8_find_165 ?_
                      refine z_iconst (pc := 168) (v := 2) F dX8_find_168 (by decide) ?_
                      refine z_laldN (pc := 169) (f := md1) F 17 1 rfl rfl 2 (by decide) (by omega) (by decide) dX8_find_169 ?_
                      rw [show ((md1) 2) = wCm S o e 2 from (h42_0 2 (by decide))]
                      refine z_lastN (pc := 170) (ws' := mw E r (mfd S hh1 ab1 f1 hg1 md1 (nI (fl S q e o).length) (upd row' (k' + 1) (nI o)) (vp_updL key' (k' + 1) (wCm S o e 1)) (vp_updL grp' (k' + 1) (wCm S o e 2)) sm')) (f := grp') F 20 1 rfl rfl (k' + 1) rfl (by omega) (by decide) dX8_find_170 rfl ?_
                      refine z_aload_n (pc := 171) F dX8_find_171 rfl 0 rfl ?_
                      refine z_get (pc := 172) (v := .ref (r 21)) F iX8 0 rfl rfl 28 (by decide) tw_886 rfl dX8_find_172 ?_
                      refine z_iload_n (pc := 175) F dX8_find_175 rfl 3 rfl ?_
                      refine z_aload_n (pc := 176) F dX8_find_176 rfl 0 rfl ?_
                      refine z_get (pc := 177) (v := .ref (r 17)) F iX8 0 rfl rfl 23 (by decide) tw_881 rfl dX8_find_177 ?_
                      refine z_iconst (pc := 180) (v := 3) F dX8_find_180 (by decide) ?_
                      refine z_laldN (pc := 181) (f := md1) F 17 1 rfl rfl 3 (by decide) (by omega) (by decide) dX8_find_181 ?_
                      rw [show ((md1) 3) = wCm S o e 3 from (h42_0 3 (by decide))]
                      refine z_lastN (pc := 182) (ws' := mw E r (mfd S hh1 ab1 f1 hg1 md1 (nI (fl S q e o).length) (upd row' (k' + 1) (nI o)) (vp_updL key' (k' + 1) (wCm S o e 1)) (vp_updL grp' (k' + 1) (wCm S o e 2)) (vp_updL sm' (k' + 1) (wCm S o e 3)))) (f := sm') F 21 1 rfl rfl (k' + 1) rfl (by omega) (by decide) dX8_find_182 rfl ?_
                      refine z_aload_n (pc := 183) F dX8_find_183 rfl 0 rfl ?_
                      refine z_dup (pc := 184) F dX8_find_184 rfl ?_
                      refine z_get (pc := 185) (v := .int (nI (fl S q e o).length)) F iX8 0 rfl rfl 24 (by decide) tw_882 rfl dX8_find_185 ?_
                      refine z_iconst (pc := 188) (v := 1) F dX8_find_188 (by decide) ?_
                      refine z_iadd (pc := 189) F dX8_find_189 ?_
                      rw [show ((nI (fl S q e o).length) + 1) = nI ((fl S q e o).length + 1) from nI_1 _]
                      refine z_put (pc := 190) (ws' := mw E r (mfd S hh1 ab1 f1 hg1 md1 (nI ((fl S q e o).length + 1)) (upd row' (k' + 1) (nI o)) (vp_updL key' (k' + 1) (wCm S o e 1)) (vp_updL grp' (k' + 1) (wCm S o e 2)) (vp_updL sm' (k' + 1) (wCm S o e 3)))) F iX8 tyX8 tyX8_ok nmX8 0 rfl rfl 24 (by decide) tw_882 rfl rfl rfl (Nat.le_of_ble_eq_true rfl) dX8_find_190 rfl ?_
                      refine z_iinc (pc := 193) (v := nI (o + 1)) (lv' := [(0, .ref (r 0)), (1, .int (nI q)), (2, .int (nI (o + 1))), (3, .int (nI (k' + 1)))]) F (j := 2) dX8_find_193 rfl (nI_1 _) (by decide) [1, 2, 0, 3] rfl ?_
                      refine z_goto (pc := 196) (tgt := 7) F dX8_find_196 (by decide) ?_
                      refine z_locals (lv' := [(0, .ref (r 0)), (1, .int (nI q)), (2, .int (nI (o + 1)))]) [0, 1, 2] rfl ?_
                      have e1 := fl_yes (S := S) (q := q) (e := e) (o := o) (by simp [sel, c21, c36, c45]); rw [show (fl S q e o).length + 1 = (fl S q e (o + 1)).length from by rw [e1, insS_len]]; exact ih7 (o + 1) hh1 ab1 f1 hg1 md1 (upd row' (k' + 1) (nI o)) (vp_updL key' (k' + 1) (wCm S o e 1)) (vp_updL grp' (k' + 1) (wCm S o e 2)) (vp_updL sm' (k' + 1) (wCm S o e 3)) (by omega) (by omega) (by rw [e1]; exact hin)
                    · refine z_aload_n (pc := 78) F dX8_find_78 rfl 0 rfl ?_
                      refine z_get (pc := 79) (v := .ref (r 18)) F iX8 0 rfl rfl 25 (by decide) tw_883 rfl dX8_find_79 ?_
                      refine z_iload_n (pc := 82) F dX8_find_82 rfl 3 rfl ?_
                      refine z_aload_n (pc := 83) F dX8_find_83 rfl 0 rfl ?_
                      refine z_get (pc := 84) (v := .ref (r 18)) F iX8 0 rfl rfl 25 (by decide) tw_883 rfl dX8_find_84 ?_
                      refine z_iload_n (pc := 87) F dX8_find_87 rfl 3 rfl ?_
                      refine z_iconst (pc := 88) (v := 1) F dX8_find_88 (by decide) ?_
                      refine z_isub (pc := 89) F dX8_find_89 ?_
                      rw [show ((nI (k' + 1)) - 1) = nI k' from (nI_pred k')]
                      refine z_ialdN (pc := 90) (f := row') F 18 0 rfl rfl k' rfl (by omega) (by decide) dX8_find_90 ?_
                      refine z_iastN (pc := 91) (ws' := mw E r (mfd S hh1 ab1 f1 hg1 md1 (nI (fl S q e o).length) (upd row' (k' + 1) ((row') k')) key' grp' sm')) (f := row') F 18 0 rfl rfl (k' + 1) rfl (by omega) (by decide) dX8_find_91 rfl ?_
                      refine z_aload_n (pc := 92) F dX8_find_92 rfl 0 rfl ?_
                      refine z_get (pc := 93) (v := .ref (r 19)) F iX8 0 rfl rfl 26 (by decide) tw_884 rfl dX8_find_93 ?_
                      refine z_iload_n (pc := 96) F dX8_find_96 rfl 3 rfl ?_
                      refine z_aload_n (pc := 97) F dX8_find_97 rfl 0 rfl ?_
                      refine z_get (pc := 98) (v := .ref (r 19)) F iX8 0 rfl rfl 26 (by decide) tw_884 rfl dX8_find_98 ?_
                      refine z_iload_n (pc := 101) F dX8_find_101 rfl 3 rfl ?_
                      refine z_iconst (pc := 102) (v := 1) F dX8_find_102 (by decide) ?_
                      refine z_isub (pc := 103) F dX8_find_103 ?_
                      rw [show ((nI (k' + 1)) - 1) = nI k' from (nI_pred k')]
                      refine z_laldN (pc := 104) (f := key') F 19 1 rfl rfl k' rfl (by omega) (by decide) dX8_find_104 ?_
                      refine z_lastN (pc := 105) (ws' := mw E r (mfd S hh1 ab1 f1 hg1 md1 (nI (fl S q e o).length) (upd row' (k' + 1) ((row') k')) (vp_updL key' (k' + 1) ((key') k')) grp' sm')) (f := key') F 19 1 rfl rfl (k' + 1) rfl (by omega) (by decide) dX8_find_105 rfl ?_
                      refine z_aload_n (pc := 106) F dX8_find_106 rfl 0 rfl ?_
                      refine z_get (pc := 107) (v := .ref (r 20)) F iX8 0 rfl rfl 27 (by decide) tw_885 rfl dX8_find_107 ?_
                      refine z_iload_n (pc := 110) F dX8_find_110 rfl 3 rfl ?_
                      refine z_aload_n (pc := 111) F dX8_find_111 rfl 0 rfl ?_
                      refine z_get (pc := 112) (v := .ref (r 20)) F iX8 0 rfl rfl 27 (by decide) tw_885 rfl dX8_find_112 ?_
                      refine z_iload_n (pc := 115) F dX8_find_115 rfl 3 rfl ?_
                      refine z_iconst (pc := 116) (v := 1) F dX8_find_116 (by decide) ?_
                      refine z_isub (pc := 117) F dX8_find_117 ?_
                      rw [show ((nI (k' + 1)) - 1) = nI k' from (nI_pred k')]
                      refine z_laldN (pc := 118) (f := grp') F 20 1 rfl rfl k' rfl (by omega) (by decide) dX8_find_118 ?_
                      refine z_lastN (pc := 119) (ws' := mw E r (mfd S hh1 ab1 f1 hg1 md1 (nI (fl S q e o).length) (upd row' (k' + 1) ((row') k')) (vp_updL key' (k' + 1) ((key') k')) (vp_updL grp' (k' + 1) ((grp') k')) sm')) (f := grp') F 20 1 rfl rfl (k' + 1) rfl (by omega) (by decide) dX8_find_119 rfl ?_
                      refine z_aload_n (pc := 120) F dX8_find_120 rfl 0 rfl ?_
                      refine z_get (pc := 121) (v := .ref (r 21)) F iX8 0 rfl rfl 28 (by decide) tw_886 rfl dX8_find_121 ?_
                      refine z_iload_n (pc := 124) F dX8_find_124 rfl 3 rfl ?_
                      refine z_aload_n (pc := 125) F dX8_find_125 rfl 0 rfl ?_
                      refine z_get (pc := 126) (v := .ref (r 21)) F iX8 0 rfl rfl 28 (by decide) tw_886 rfl dX8_find_126 ?_
                      refine z_iload_n (pc := 129) F dX8_find_129 rfl 3 rfl ?_
                      refine z_iconst (pc := 130) (v := 1) F dX8_find_130 (by decide) ?_
                      refine z_isub (pc := 131) F dX8_find_131 ?_
                      rw [show ((nI (k' + 1)) - 1) = nI k' from (nI_pred k')]
                      refine z_laldN (pc := 132) (f := sm') F 21 1 rfl rfl k' rfl (by omega) (by decide) dX8_find_132 ?_
                      refine z_lastN (pc := 133) (ws' := mw E r (mfd S hh1 ab1 f1 hg1 md1 (nI (fl S q e o).length) (upd row' (k' + 1) ((row') k')) (vp_updL key' (k' + 1) ((key') k')) (vp_updL grp' (k' + 1) ((grp') k')) (vp_updL sm' (k' + 1) ((sm') k')))) (f := sm') F 21 1 rfl rfl (k' + 1) rfl (by omega) (by decide) dX8_find_133 rfl ?_
                      refine z_iinc (pc := 134) (v := nI k') (lv' := [(0, .ref (r 0)), (1, .int (nI q)), (2, .int (nI o)), (3, .int (nI k'))]) F (j := 3) dX8_find_134 rfl (i_m1 k') (by decide) [1, 2, 3, 0] rfl ?_
                      refine z_goto (pc := 137) (tgt := 56) F dX8_find_137 (by decide) ?_
                      exact ih56 k' _ _ _ _ (by omega) (by omega) (shR_s hsh) (fun i y hy hi => by
      by_cases hik : i = k'
      · subst hik
        obtain ⟨-, hkey, -⟩ := (hsh i y hy).1 (by omega)
        have c74 : ¬ key' i ≤ wCm S o e 1 := c74
        rw [hkey] at c74
        show wCm S o e 1 < y.2.1
        rw [Int64.lt_iff_toInt_lt]
        rw [Int64.le_iff_toInt_le] at c74
        omega
      · exact hgt i y hy (by omega))
              exact L56 _ (fl S q e o).length row key grp sm (Nat.lt_succ_self _) (Nat.le_refl _) (shR_0 hho) (fun i y hy hi => absurd (List.getElem?_eq_some_iff.mp hy).1 (by omega))
            · replace c45 := bI_f c45
              refine z_goto (pc := 48) (tgt := 193) F dX8_find_48 (by decide) ?_
              refine z_iinc (pc := 193) (v := nI (o + 1)) (lv' := [(0, .ref (r 0)), (1, .int (nI q)), (2, .int (nI (o + 1)))]) F (j := 2) dX8_find_193 rfl (nI_1 _) (by decide) [1, 2, 0] rfl ?_
              refine z_goto (pc := 196) (tgt := 7) F dX8_find_196 (by decide) ?_
              have e1 := fl_no (S := S) (q := q) (e := e) (o := o) (by first | (simp [sel, c21]; done) | (simp [sel, c36]; done) | (simp [sel, c45]; done)); rw [← e1]; exact ih7 (o + 1) hh1 ab1 f1 hg1 md1 row key grp sm (by omega) (by omega) (by rw [e1]; exact hho)
  exact L7 _ 0 (zi S 5) (zi S 6) (zb S 15) (za S 16) (zb S 17) (za S 18) (zb S 19) (zb S 20) (zb S 21) (Nat.lt_succ_self _) (Nat.zero_le _) (fun i x hx => by simp [fl] at hx)

set_option maxHeartbeats 4000000 in
set_option maxRecDepth 100000 in
theorem c_X8_shows (l : Launch) (E : zE) (r : Nat → Nat) (S : zS) (q : Nat) (c : Nat) (n : Nat) (hq : q < 6) (hc : za S 9 q = nI c) (hc2 : c < 100) (hn : zi S 7 = nI n) (hn2 : n ≤ 60) : Ct l yX8_shows cX8_shows 2 (some .int) ({ frames := 0, cells := 0, slots := 0, locals := 0 } : Room) E (mw E r S) [.ref (r 0), .int (nI q)] (fun v_ w_ => v_ = some (.int (nI (shN c n))) ∧ w_ = mw E r S) := by
  refine Ct.of (by decide) (Nat.le_of_ble_eq_true rfl) (lv := [(0, .ref (r 0)), (1, .int (nI q))]) rfl ?_
  intro X F hR
  have F : zF X l ({ frames := 0, cells := 0, slots := 0, locals := 0 } : Room) E cX8_shows 2 "LiveQueriesModel" := F
  refine z_aload_n (pc := 0) F dX8_shows_0 rfl 0 rfl ?_
  refine z_get (pc := 1) (v := .ref (r 9)) F iX8 0 rfl rfl 12 (by decide) tw_870 rfl dX8_shows_1 ?_
  refine z_iload_n (pc := 4) F dX8_shows_4 rfl 1 rfl ?_
  refine z_ialdN (pc := 5) (f := za S 9) F 9 0 rfl rfl q rfl (by omega) (by decide) dX8_shows_5 ?_
  rw [show (za S 9 q) = nI c from hc]
  refine z_if_eq (pc := 6) (tgt := 22) F dX8_shows_6 (by decide) (fun c6 => ?_) (fun c6 => ?_)
  · have k6 : c = 0 := (nI_eq (b := 0) (by omega) (by decide)).mp c6
    refine z_aload_n (pc := 22) F dX8_shows_22 rfl 0 rfl ?_
    refine z_get (pc := 23) (v := .int (zi S 7)) F iX8 0 rfl rfl 24 (by decide) tw_882 rfl dX8_shows_23 ?_
    rw [show (zi S 7) = nI n from hn]
    refine z_goto (pc := 26) (tgt := 35) F dX8_shows_26 (by decide) ?_
    exact z_iret (pc := 35) F hR dX8_shows_35 (Nat.le_of_ble_eq_true rfl) (Nat.le_of_ble_eq_true rfl) ⟨by rw [shN_n (by omega)], rfl⟩
  · have k6 : ¬ c = 0 := fun q => c6 (by rw [q]; rfl)
    refine z_aload_n (pc := 9) F dX8_shows_9 rfl 0 rfl ?_
    refine z_get (pc := 10) (v := .ref (r 9)) F iX8 0 rfl rfl 12 (by decide) tw_870 rfl dX8_shows_10 ?_
    refine z_iload_n (pc := 13) F dX8_shows_13 rfl 1 rfl ?_
    refine z_ialdN (pc := 14) (f := za S 9) F 9 0 rfl rfl q rfl (by omega) (by decide) dX8_shows_14 ?_
    rw [show (za S 9 q) = nI c from hc]
    refine z_aload_n (pc := 15) F dX8_shows_15 rfl 0 rfl ?_
    refine z_get (pc := 16) (v := .int (zi S 7)) F iX8 0 rfl rfl 24 (by decide) tw_882 rfl dX8_shows_16 ?_
    rw [show (zi S 7) = nI n from hn]
    refine z_icmp_le (pc := 19) (tgt := 29) F dX8_shows_19 (by decide) (fun c19 => ?_) (fun c19 => ?_)
    · have k19 := gI (by omega) (by omega) c19
      refine z_aload_n (pc := 29) F dX8_shows_29 rfl 0 rfl ?_
      refine z_get (pc := 30) (v := .ref (r 9)) F iX8 0 rfl rfl 12 (by decide) tw_870 rfl dX8_shows_30 ?_
      refine z_iload_n (pc := 33) F dX8_shows_33 rfl 1 rfl ?_
      refine z_ialdN (pc := 34) (f := za S 9) F 9 0 rfl rfl q rfl (by omega) (by decide) dX8_shows_34 ?_
      rw [show (za S 9 q) = nI c from hc]
      exact z_iret (pc := 35) F hR dX8_shows_35 (Nat.le_of_ble_eq_true rfl) (Nat.le_of_ble_eq_true rfl) ⟨by rw [shN_c k6 k19], rfl⟩
    · have k19 := ngI (by omega) (by omega) c19
      refine z_aload_n (pc := 22) F dX8_shows_22 rfl 0 rfl ?_
      refine z_get (pc := 23) (v := .int (zi S 7)) F iX8 0 rfl rfl 24 (by decide) tw_882 rfl dX8_shows_23 ?_
      rw [show (zi S 7) = nI n from hn]
      refine z_goto (pc := 26) (tgt := 35) F dX8_shows_26 (by decide) ?_
      exact z_iret (pc := 35) F hR dX8_shows_35 (Nat.le_of_ble_eq_true rfl) (Nat.le_of_ble_eq_true rfl) ⟨by rw [shN_n (by omega)], rfl⟩
set_option maxHeartbeats 4000000 in
set_option maxRecDepth 100000 in
theorem c_X8_keep (l : Launch) (E : zE) (r : Nat → Nat) (S : zS) (m : Nat) (nq : Nat) (eq : Nat → Nat → Nat) (cq : Nat → Nat) (hm : m ≤ 60) (hmo : zi S 2 = nI m) (hQ : QS S nq eq cq) (ho : objOk S) : Ct l yX8_keep cX8_keep 3 (none) ({ frames := 5, cells := 0, slots := 0, locals := 145 } : Room) E (mw E r S) [.ref (r 0)] (fun v_ w_ => ∃ hh : Int32, ∃ ab : Int32, ∃ f : Nat → Int64, ∃ hg : Nat → Int32, ∃ md : Nat → Int64, ∃ n : Int32, ∃ row : Nat → Int32, ∃ key : Nat → Int64, ∃ grp : Nat → Int64, ∃ sm : Nat → Int64, ∃ sh : Nat → Int32, v_ = none ∧ w_ = mw E r (mse S hh ab f hg md n row key grp sm sh (za S 26) (zi S 4) (za S 13)) ∧ (∀ q : Nat, q < nq → okSh sh 60 q (nBf S m eq cq q))) := by
  refine Ct.of (by decide) (Nat.le_of_ble_eq_true rfl) (lv := [(0, .ref (r 0))]) rfl ?_
  intro X F hR
  have F : zF X l ({ frames := 5, cells := 0, slots := 0, locals := 145 } : Room) E cX8_keep 3 "LiveQueriesModel" := F
  have hnq := hQ.1
  show Z X 0 0 (mw E r (mse S (zi S 5) (zi S 6) (zb S 15) (za S 16) (zb S 17) (zi S 7) (za S 18) (zb S 19) (zb S 20) (zb S 21) (za S 14) (za S 26) (zi S 4) (za S 13))) [(0, .ref (r 0))] 0 []
  refine z_iconst (pc := 0) (v := 0) F dX8_keep_0 (by decide) ?_
  refine z_istore_n (pc := 1) (lv' := [(0, .ref (r 0)), (1, .int 0)]) F dX8_keep_1 rfl (by decide) [1, 0] rfl ?_
  have L2 : ∀ (N : Nat) (q : Nat) (hh : Int32) (ab : Int32) (f : Nat → Int64) (hg : Nat → Int32) (md : Nat → Int64) (n : Int32) (row : Nat → Int32) (key : Nat → Int64) (grp : Nat → Int64) (sm : Nat → Int64) (sh : Nat → Int32), (nq - q) < N → (q ≤ nq) → (∀ q' : Nat, q' < q → okSh sh 60 q' (nBf S m eq cq q')) → Z X (0) (0) (mw E r (mse S hh ab f hg md n row key grp sm sh (za S 26) (zi S 4) (za S 13))) [(0, .ref (r 0)), (1, .int (nI q))] 2 [] := by
    intro N
    induction N with
    | zero => intro q hh ab f hg md n row key grp sm sh hN; exact absurd hN (Nat.not_lt_zero _)
    | succ N ih2 =>
      intro q hh ab f hg md n row key grp sm sh hN hqn hsh
      refine z_iload_n (pc := 2) F dX8_keep_2 rfl 1 rfl ?_
      refine z_aload_n (pc := 3) F dX8_keep_3 rfl 0 rfl ?_
      refine z_get (pc := 4) (v := .int (zi S 3)) F iX8 0 rfl rfl 10 (by decide) tw_868 rfl dX8_keep_4 ?_
      rw [show (zi S 3) = nI nq from hQ.2.1]
      refine z_icmp_ge (pc := 7) (tgt := 81) F dX8_keep_7 (by decide) (fun c7 => ?_) (fun c7 => ?_)
      · have hqe : q = nq := Nat.le_antisymm hqn (gI (by omega) (by omega) c7)
        subst hqe
        exact z_vret (pc := 81) F hR dX8_keep_81 (Nat.le_of_ble_eq_true rfl) (Nat.le_of_ble_eq_true rfl) ⟨hh, ab, f, hg, md, n, row, key, grp, sm, sh, rfl, rfl, hsh⟩
      · have hqlt := ngI (by omega) (by omega) c7
        obtain ⟨hqo, hcq, hc2⟩ := hQ.2.2 q hqlt
        refine z_aload_n (pc := 10) F dX8_keep_10 rfl 0 rfl ?_
        refine z_iload_n (pc := 11) F dX8_keep_11 rfl 1 rfl ?_
        refine z_callVW (pc := 12) (q0 := 0) (ci := 8) (rest := []) F (c_X8_find2 l E r (mse S hh ab f hg md n row key grp sm sh (za S 26) (zi S 4) (za S 13)) q (eq q) m (by omega) hm hmo (qok_of (S := S) (S' := (mse S hh ab f hg md n row key grp sm sh (za S 26) (zi S 4) (za S 13))) rfl rfl hqo) ho) 1 ww_Model_137 (by decide +kernel) rfl ⟨Nat.le_of_ble_eq_true rfl, Nat.le_of_ble_eq_true rfl⟩ ⟨Nat.le_of_ble_eq_true rfl, Nat.le_of_ble_eq_true rfl⟩ rfl rfl rfl rfl (Nat.le_of_ble_eq_true rfl) dX8_keep_12 (fun v_ w1_ hp => ?_)
        obtain ⟨hh1, ab1, f1, hg1, md1, row1, key1, grp1, sm1, rfl, rfl, h12_0⟩ := hp
        show Z X (0) (0) (mw E r (mse S hh1 ab1 f1 hg1 md1 (nI (fL S q (eq q) m).length) row1 key1 grp1 sm1 sh (za S 26) (zi S 4) (za S 13))) [(0, .ref (r 0)), (1, .int (nI q))] 15 []
        have h12_0 : hoR (fL S q (eq q) m) row1 key1 grp1 sm1 := h12_0
        have hfl := fL_len S q (eq q) m
        refine z_iconst (pc := 15) (v := 0) F dX8_keep_15 (by decide) ?_
        refine z_istore_n (pc := 16) (lv' := [(0, .ref (r 0)), (1, .int (nI q)), (2, .int 0)]) F dX8_keep_16 rfl (by decide) [1, 2, 0] rfl ?_
        have L17 : ∀ (N : Nat) (i : Nat) (sh' : Nat → Int32), (60 - i) < N → (i ≤ 60) → (okSh sh' i q (fun _ => false)) → (∀ q' : Nat, q' < q → okSh sh' 60 q' (nBf S m eq cq q')) → Z X (0) (0) (mw E r (mse S hh1 ab1 f1 hg1 md1 (nI (fL S q (eq q) m).length) row1 key1 grp1 sm1 sh' (za S 26) (zi S 4) (za S 13))) [(0, .ref (r 0)), (1, .int (nI q)), (2, .int (nI i))] 17 [] := by
          intro N
          induction N with
          | zero => intro i sh' hN; exact absurd hN (Nat.not_lt_zero _)
          | succ N ih17 =>
            intro i sh' hN hi hcl hpr
            refine z_iload_n (pc := 17) F dX8_keep_17 rfl 2 rfl ?_
            refine z_bipush (pc := 18) (v := 60) F dX8_keep_18 (by decide) ?_
            refine z_icmp_ge (pc := 20) (tgt := 41) F dX8_keep_20 (by decide) (fun c20 => ?_) (fun c20 => ?_)
            · have hi6 : i = 60 := Nat.le_antisymm hi (gI (a := 60) (by decide) (by omega) c20)
              subst hi6
              refine z_iconst (pc := 41) (v := 0) F dX8_keep_41 (by decide) ?_
              refine z_istore_n (pc := 42) (lv' := [(0, .ref (r 0)), (1, .int (nI q)), (2, .int 0)]) F dX8_keep_42 rfl (by decide) [1, 2, 0] rfl ?_
              have L43 : ∀ (N : Nat) (k : Nat) (sh2 : Nat → Int32), (shN (cq q) (fL S q (eq q) m).length - k) < N → (k ≤ shN (cq q) (fL S q (eq q) m).length) → (okSh sh2 60 q (isSh (fL S q (eq q) m) k)) → (∀ q' : Nat, q' < q → okSh sh2 60 q' (nBf S m eq cq q')) → Z X (0) (0) (mw E r (mse S hh1 ab1 f1 hg1 md1 (nI (fL S q (eq q) m).length) row1 key1 grp1 sm1 sh2 (za S 26) (zi S 4) (za S 13))) [(0, .ref (r 0)), (1, .int (nI q)), (2, .int (nI k))] 43 [] := by
                intro N
                induction N with
                | zero => intro k sh2 hN; exact absurd hN (Nat.not_lt_zero _)
                | succ N ih43 =>
                  intro k sh2 hN hk hs hpr2
                  have hsl := shN_le (cq q) (fL S q (eq q) m).length
                  refine z_iload_n (pc := 43) F dX8_keep_43 rfl 2 rfl ?_
                  refine z_aload_n (pc := 44) F dX8_keep_44 rfl 0 rfl ?_
                  refine z_iload_n (pc := 45) F dX8_keep_45 rfl 1 rfl ?_
                  refine z_callVW (pc := 46) (q0 := 0) (ci := 8) (rest := [.int (nI k)]) F (c_X8_shows l E r (mse S hh1 ab1 f1 hg1 md1 (nI (fL S q (eq q) m).length) row1 key1 grp1 sm1 sh2 (za S 26) (zi S 4) (za S 13)) q (cq q) ((fL S q (eq q) m).length) (by omega) hcq hc2 rfl (Nat.le_trans (fL_len _ _ _ _) hm)) 1 ww_Model_151 (by decide +kernel) rfl ⟨Nat.le_of_ble_eq_true rfl, Nat.le_of_ble_eq_true rfl⟩ ⟨Nat.le_of_ble_eq_true rfl, Nat.le_of_ble_eq_true rfl⟩ rfl rfl rfl rfl (Nat.le_of_ble_eq_true rfl) dX8_keep_46 (fun v_ w1_ hp => ?_)
                  obtain ⟨rfl, rfl⟩ := hp
                  show Z X (0) (0) (mw E r (mse S hh1 ab1 f1 hg1 md1 (nI (fL S q (eq q) m).length) row1 key1 grp1 sm1 sh2 (za S 26) (zi S 4) (za S 13))) [(0, .ref (r 0)), (1, .int (nI q)), (2, .int (nI k))] 49 [.int (nI (shN (cq q) ((fL S q (eq q) m).length))), .int (nI k)]
                  refine z_icmp_ge (pc := 49) (tgt := 75) F dX8_keep_49 (by decide) (fun c49 => ?_) (fun c49 => ?_)
                  · have hkk : k = shN (cq q) (fL S q (eq q) m).length := Nat.le_antisymm hk (gI (by omega) (by omega) c49)
                    subst hkk
                    refine z_iinc (pc := 75) (v := nI (q + 1)) (lv' := [(0, .ref (r 0)), (1, .int (nI (q + 1))), (2, .int (nI (shN (cq q) (fL S q (eq q) m).length)))]) F (j := 1) dX8_keep_75 rfl (nI_1 _) (by decide) [1, 0, 2] rfl ?_
                    refine z_goto (pc := 78) (tgt := 2) F dX8_keep_78 (by decide) ?_
                    refine z_locals (lv' := [(0, .ref (r 0)), (1, .int (nI (q + 1)))]) [0, 1] rfl ?_
                    exact ih2 (q + 1) hh1 ab1 f1 hg1 md1 (nI (fL S q (eq q) m).length) row1 key1 grp1 sm1 sh2 (by omega) (by omega) (fun q' h' => by
      rcases Nat.lt_or_ge q' q with z | z
      · exact hpr2 q' z
      · have e1 : q' = q := by omega
        subst e1; exact hs)
                  · have hklt := ngI (by omega) (by omega) c49
                    obtain ⟨x, hx⟩ : ∃ x, (fL S q (eq q) m)[k]? = some x := ⟨_, List.getElem?_eq_getElem (by omega)⟩
                    have hxm := fL_lt hx
                    obtain ⟨hr1, -⟩ := h12_0 k x hx
                    refine z_aload_n (pc := 52) F dX8_keep_52 rfl 0 rfl ?_
                    refine z_get (pc := 53) (v := .ref (r 14)) F iX8 0 rfl rfl 18 (by decide) tw_876 rfl dX8_keep_53 ?_
                    refine z_bipush (pc := 56) (v := 60) F dX8_keep_56 (by decide) ?_
                    refine z_iload_n (pc := 58) F dX8_keep_58 rfl 1 rfl ?_
                    refine z_imul (pc := 59) F dX8_keep_59 ?_
                    refine z_aload_n (pc := 60) F dX8_keep_60 rfl 0 rfl ?_
                    refine z_get (pc := 61) (v := .ref (r 18)) F iX8 0 rfl rfl 25 (by decide) tw_883 rfl dX8_keep_61 ?_
                    refine z_iload_n (pc := 64) F dX8_keep_64 rfl 2 rfl ?_
                    refine z_ialdN (pc := 65) (f := row1) F 18 0 rfl rfl k rfl (by omega) (by decide) dX8_keep_65 ?_
                    rw [show ((row1) k) = nI x.1 from hr1]
                    refine z_iadd (pc := 66) F dX8_keep_66 ?_
                    refine z_iconst (pc := 67) (v := 1) F dX8_keep_67 (by decide) ?_
                    refine z_zastN (pc := 68) (ws' := mw E r (mse S hh1 ab1 f1 hg1 md1 (nI (fL S q (eq q) m).length) row1 key1 grp1 sm1 (upd sh2 (60 * q + x.1) 1) (za S 26) (zi S 4) (za S 13))) (f := sh2) F 14 2 rfl rfl (60 * q + x.1) (ix60 q x.1) (by omega) (by decide) rfl dX8_keep_68 rfl ?_
                    refine z_iinc (pc := 69) (v := nI (k + 1)) (lv' := [(0, .ref (r 0)), (1, .int (nI q)), (2, .int (nI (k + 1)))]) F (j := 2) dX8_keep_69 rfl (nI_1 _) (by decide) [1, 2, 0] rfl ?_
                    refine z_goto (pc := 72) (tgt := 43) F dX8_keep_72 (by decide) ?_
                    exact ih43 (k + 1) _ (by omega) (by omega) (okSh_s hs hx) (fun q' h' => okSh_un (hpr2 q' h') h')
              have hsl := shN_le (cq q) (fL S q (eq q) m).length
              exact L43 _ 0 sh' (Nat.lt_succ_self _) (Nat.zero_le _) (okSh_0 _ hcl) hpr
            · have hi6 := ngI (a := 60) (by decide) (by omega) c20
              refine z_aload_n (pc := 23) F dX8_keep_23 rfl 0 rfl ?_
              refine z_get (pc := 24) (v := .ref (r 14)) F iX8 0 rfl rfl 18 (by decide) tw_876 rfl dX8_keep_24 ?_
              refine z_bipush (pc := 27) (v := 60) F dX8_keep_27 (by decide) ?_
              refine z_iload_n (pc := 29) F dX8_keep_29 rfl 1 rfl ?_
              refine z_imul (pc := 30) F dX8_keep_30 ?_
              refine z_iload_n (pc := 31) F dX8_keep_31 rfl 2 rfl ?_
              refine z_iadd (pc := 32) F dX8_keep_32 ?_
              refine z_iconst (pc := 33) (v := 0) F dX8_keep_33 (by decide) ?_
              refine z_zastN (pc := 34) (ws' := mw E r (mse S hh1 ab1 f1 hg1 md1 (nI (fL S q (eq q) m).length) row1 key1 grp1 sm1 (upd sh' (60 * q + i) 0) (za S 26) (zi S 4) (za S 13))) (f := sh') F 14 2 rfl rfl (60 * q + i) (ix60 q i) (by omega) (by decide) rfl dX8_keep_34 rfl ?_
              refine z_iinc (pc := 35) (v := nI (i + 1)) (lv' := [(0, .ref (r 0)), (1, .int (nI q)), (2, .int (nI (i + 1)))]) F (j := 2) dX8_keep_35 rfl (nI_1 _) (by decide) [1, 2, 0] rfl ?_
              refine z_goto (pc := 38) (tgt := 17) F dX8_keep_38 (by decide) ?_
              exact ih17 (i + 1) _ (by omega) (by omega) (okSh_c hcl) (fun q' h' => okSh_un (hpr q' h') h')
        exact L17 _ 0 sh (Nat.lt_succ_self _) (by decide) (fun o ho => absurd ho (Nat.not_lt_zero _)) hsh
  exact L2 _ 0 (zi S 5) (zi S 6) (zb S 15) (za S 16) (zb S 17) (zi S 7) (za S 18) (zb S 19) (zb S 20) (zb S 21) (za S 14) (Nat.lt_succ_self _) (Nat.zero_le _) (fun q h => absurd h (Nat.not_lt_zero _))
set_option maxHeartbeats 4000000 in
set_option maxRecDepth 100000 in
theorem c_X8_tell (l : Launch) (E : zE) (r : Nat → Nat) (S : zS) (q : Nat) (cm : Bool) (nB : Nat → Bool) (sB : Nat → Bool) (D : List (Nat × Nat × Bool)) (hq : q < 6) (hd : zi S 4 = nI D.length) (hdR : dfR D (za S 13)) (hnw : okSh (za S 26) 60 0 nB) (hsh : okSh (za S 14) 60 q sB) (hD : D.length + (tlL nB sB q cm 60).length ≤ 360) : Ct l yX8_tell cX8_tell 4 (none) ({ frames := 0, cells := 0, slots := 0, locals := 0 } : Room) E (mw E r S) [.ref (r 0), .int (nI q), .int (bI cm)] (fun v_ w_ => ∃ df : Nat → Int32, v_ = none ∧ w_ = mw E r (mtl S (nI (D ++ tlL nB sB q cm 60).length) df) ∧ (dfR (D ++ tlL nB sB q cm 60) df)) := by
  refine Ct.of (by decide) (Nat.le_of_ble_eq_true rfl) (lv := [(0, .ref (r 0)), (1, .int (nI q)), (2, .int (bI cm))]) rfl ?_
  intro X F hR
  have F : zF X l ({ frames := 0, cells := 0, slots := 0, locals := 0 } : Room) E cX8_tell 4 "LiveQueriesModel" := F
  show Z X 0 0 (mw E r (mtl S (zi S 4) (za S 13))) [(0, .ref (r 0)), (1, .int (nI q)), (2, .int (bI cm))] 0 []
  refine z_iconst (pc := 0) (v := 0) F dX8_tell_0 (by decide) ?_
  refine z_istore_n (pc := 1) (lv' := [(0, .ref (r 0)), (1, .int (nI q)), (2, .int (bI cm)), (3, .int 0)]) F dX8_tell_1 rfl (by decide) [1, 2, 3, 0] rfl ?_
  have L2 : ∀ (N : Nat) (o : Nat) (df : Nat → Int32), (60 - o) < N → (o ≤ 60) → (dfR (D ++ tlL nB sB q cm o) df) → Z X (0) (0) (mw E r (mtl S (nI (D ++ tlL nB sB q cm o).length) df)) [(0, .ref (r 0)), (1, .int (nI q)), (2, .int (bI cm)), (3, .int (nI o))] 2 [] := by
    intro N
    induction N with
    | zero => intro o df hN; exact absurd hN (Nat.not_lt_zero _)
    | succ N ih2 =>
      intro o df hN hi hdf
      refine z_iload_n (pc := 2) F dX8_tell_2 rfl 3 rfl ?_
      refine z_bipush (pc := 3) (v := 60) F dX8_tell_3 (by decide) ?_
      refine z_icmp_ge (pc := 5) (tgt := 100) F dX8_tell_5 (by decide) (fun c5 => ?_) (fun c5 => ?_)
      · have hi6 : o = 60 := Nat.le_antisymm hi (gI (a := 60) (by decide) (by omega) c5)
        subst hi6
        exact z_vret (pc := 100) F hR dX8_tell_100 (Nat.le_of_ble_eq_true rfl) (Nat.le_of_ble_eq_true rfl) ⟨df, rfl, rfl, hdf⟩
      · have hi6 := ngI (a := 60) (by decide) (by omega) c5
        have hle := tlL_le nB sB q cm (o := o + 1) 60 (by omega)
        have hDl : (D ++ tlL nB sB q cm o).length = D.length + (tlL nB sB q cm o).length := List.length_append
        refine z_aload_n (pc := 8) F dX8_tell_8 rfl 0 rfl ?_
        refine z_get (pc := 9) (v := .ref (r 26)) F iX8 0 rfl rfl 34 (by decide) tw_892 rfl dX8_tell_9 ?_
        refine z_iload_n (pc := 12) F dX8_tell_12 rfl 3 rfl ?_
        refine z_zaldN (pc := 13) (f := za S 26) F 26 2 rfl rfl o rfl (by omega) (by decide) dX8_tell_13 ?_
        rw [show (za S 26 o) = bI (nB o) from (by simpa using hnw o (by omega))]
        refine z_iload_n (pc := 14) F dX8_tell_14 rfl 2 rfl ?_
        refine z_icmp_ne (pc := 15) (tgt := 94) F dX8_tell_15 (by decide) (fun c15 => ?_) (fun c15 => ?_)
        · have k15 : ¬ nB o = cm := fun h => c15 (by rw [h])
          refine z_iinc (pc := 94) (v := nI (o + 1)) (lv' := [(0, .ref (r 0)), (1, .int (nI q)), (2, .int (bI cm)), (3, .int (nI (o + 1)))]) F (j := 3) dX8_tell_94 rfl (nI_1 _) (by decide) [1, 2, 3, 0] rfl ?_
          refine z_goto (pc := 97) (tgt := 2) F dX8_tell_97 (by decide) ?_
          have e1 := tl_no (nB := nB) (sB := sB) (q := q) (o := o) (cm := cm) (by first | exact fun h => k15 h.1 | exact fun h => h.2 k30); rw [← e1]; exact ih2 (o + 1) df (by omega) (by omega) (by rw [e1]; exact hdf)
        · have k15 : nB o = cm := bI_eq.mp c15
          refine z_aload_n (pc := 18) F dX8_tell_18 rfl 0 rfl ?_
          refine z_get (pc := 19) (v := .ref (r 14)) F iX8 0 rfl rfl 18 (by decide) tw_876 rfl dX8_tell_19 ?_
          refine z_bipush (pc := 22) (v := 60) F dX8_tell_22 (by decide) ?_
          refine z_iload_n (pc := 24) F dX8_tell_24 rfl 1 rfl ?_
          refine z_imul (pc := 25) F dX8_tell_25 ?_
          refine z_iload_n (pc := 26) F dX8_tell_26 rfl 3 rfl ?_
          refine z_iadd (pc := 27) F dX8_tell_27 ?_
          refine z_zaldN (pc := 28) (f := za S 14) F 14 2 rfl rfl (60 * q + o) (ix60 q o) (by omega) (by decide) dX8_tell_28 ?_
          rw [show (za S 14 (60 * q + o)) = bI (sB o) from (hsh o (by omega))]
          refine z_iload_n (pc := 29) F dX8_tell_29 rfl 2 rfl ?_
          refine z_icmp_ne (pc := 30) (tgt := 36) F dX8_tell_30 (by decide) (fun c30 => ?_) (fun c30 => ?_)
          · have k30 : ¬ sB o = cm := fun h => c30 (by rw [h])
            rw [tl_yes (q := q) k15 k30, List.length_append] at hle
            simp only [List.length_cons, List.length_nil] at hle
            refine z_aload_n (pc := 36) F dX8_tell_36 rfl 0 rfl ?_
            refine z_get (pc := 37) (v := .ref (r 13)) F iX8 0 rfl rfl 17 (by decide) tw_875 rfl dX8_tell_37 ?_
            refine z_iconst (pc := 40) (v := 3) F dX8_tell_40 (by decide) ?_
            refine z_aload_n (pc := 41) F dX8_tell_41 rfl 0 rfl ?_
            refine z_get (pc := 42) (v := .int (nI (D ++ tlL nB sB q cm o).length)) F iX8 0 rfl rfl 16 (by decide) tw_874 rfl dX8_tell_42 ?_
            refine z_imul (pc := 45) F dX8_tell_45 ?_
            rw [show (3 * (nI (D ++ tlL nB sB q cm o).length)) = nI (3 * (D ++ tlL nB sB q cm o).length) from (mul3 _)]
            refine z_iload_n (pc := 46) F dX8_tell_46 rfl 1 rfl ?_
            refine z_iastN (pc := 47) (ws' := mw E r (mtl S (nI (D ++ tlL nB sB q cm o).length) (upd df (3 * (D ++ tlL nB sB q cm o).length) (nI q)))) (f := df) F 13 0 rfl rfl (3 * (D ++ tlL nB sB q cm o).length) rfl (by omega) (by decide) dX8_tell_47 rfl ?_
            refine z_aload_n (pc := 48) F dX8_tell_48 rfl 0 rfl ?_
            refine z_get (pc := 49) (v := .ref (r 13)) F iX8 0 rfl rfl 17 (by decide) tw_875 rfl dX8_tell_49 ?_
            refine z_iconst (pc := 52) (v := 3) F dX8_tell_52 (by decide) ?_
            refine z_aload_n (pc := 53) F dX8_tell_53 rfl 0 rfl ?_
            refine z_get (pc := 54) (v := .int (nI (D ++ tlL nB sB q cm o).length)) F iX8 0 rfl rfl 16 (by decide) tw_874 rfl dX8_tell_54 ?_
            refine z_imul (pc := 57) F dX8_tell_57 ?_
            rw [show (3 * (nI (D ++ tlL nB sB q cm o).length)) = nI (3 * (D ++ tlL nB sB q cm o).length) from (mul3 _)]
            refine z_iconst (pc := 58) (v := 1) F dX8_tell_58 (by decide) ?_
            refine z_iadd (pc := 59) F dX8_tell_59 ?_
            rw [show ((nI (3 * (D ++ tlL nB sB q cm o).length)) + 1) = nI (3 * (D ++ tlL nB sB q cm o).length + 1) from (nI_1 _)]
            refine z_iload_n (pc := 60) F dX8_tell_60 rfl 3 rfl ?_
            refine z_iastN (pc := 61) (ws' := mw E r (mtl S (nI (D ++ tlL nB sB q cm o).length) (upd (upd df (3 * (D ++ tlL nB sB q cm o).length) (nI q)) (3 * (D ++ tlL nB sB q cm o).length + 1) (nI o)))) (f := upd df (3 * (D ++ tlL nB sB q cm o).length) (nI q)) F 13 0 rfl rfl (3 * (D ++ tlL nB sB q cm o).length + 1) rfl (by omega) (by decide) dX8_tell_61 rfl ?_
            refine z_aload_n (pc := 62) F dX8_tell_62 rfl 0 rfl ?_
            refine z_get (pc := 63) (v := .ref (r 13)) F iX8 0 rfl rfl 17 (by decide) tw_875 rfl dX8_tell_63 ?_
            refine z_iconst (pc := 66) (v := 3) F dX8_tell_66 (by decide) ?_
            refine z_aload_n (pc := 67) F dX8_tell_67 rfl 0 rfl ?_
            refine z_get (pc := 68) (v := .int (nI (D ++ tlL nB sB q cm o).length)) F iX8 0 rfl rfl 16 (by decide) tw_874 rfl dX8_tell_68 ?_
            refine z_imul (pc := 71) F dX8_tell_71 ?_
            rw [show (3 * (nI (D ++ tlL nB sB q cm o).length)) = nI (3 * (D ++ tlL nB sB q cm o).length) from (mul3 _)]
            refine z_iconst (pc := 72) (v := 2) F dX8_tell_72 (by decide) ?_
            refine z_iadd (pc := 73) F dX8_tell_73 ?_
            rw [show ((nI (3 * (D ++ tlL nB sB q cm o).length)) + 2) = nI (3 * (D ++ tlL nB sB q cm o).length + 2) from (nI_2 _)]
            refine z_iload_n (pc := 74) F dX8_tell_74 rfl 2 rfl ?_
            refine z_if_eq (pc := 75) (tgt := 82) F dX8_tell_75 (by decide) (fun c75 => ?_) (fun c75 => ?_)
            · replace c75 := bI_f c75
              refine z_iconst (pc := 82) (v := 0) F dX8_tell_82 (by decide) ?_
              refine z_iastN (pc := 83) (ws' := mw E r (mtl S (nI (D ++ tlL nB sB q cm o).length) (upd (upd (upd df (3 * (D ++ tlL nB sB q cm o).length) (nI q)) (3 * (D ++ tlL nB sB q cm o).length + 1) (nI o)) (3 * (D ++ tlL nB sB q cm o).length + 2) 0))) (f := upd (upd df (3 * (D ++ tlL nB sB q cm o).length) (nI q)) (3 * (D ++ tlL nB sB q cm o).length + 1) (nI o)) F 13 0 rfl rfl (3 * (D ++ tlL nB sB q cm o).length + 2) rfl (by omega) (by decide) dX8_tell_83 rfl ?_
              refine z_aload_n (pc := 84) F dX8_tell_84 rfl 0 rfl ?_
              refine z_dup (pc := 85) F dX8_tell_85 rfl ?_
              refine z_get (pc := 86) (v := .int (nI (D ++ tlL nB sB q cm o).length)) F iX8 0 rfl rfl 16 (by decide) tw_874 rfl dX8_tell_86 ?_
              refine z_iconst (pc := 89) (v := 1) F dX8_tell_89 (by decide) ?_
              refine z_iadd (pc := 90) F dX8_tell_90 ?_
              rw [show ((nI (D ++ tlL nB sB q cm o).length) + 1) = nI ((D ++ tlL nB sB q cm o).length + 1) from (nI_1 _)]
              refine z_put (pc := 91) (ws' := mw E r (mtl S (nI ((D ++ tlL nB sB q cm o).length + 1)) (upd (upd (upd df (3 * (D ++ tlL nB sB q cm o).length) (nI q)) (3 * (D ++ tlL nB sB q cm o).length + 1) (nI o)) (3 * (D ++ tlL nB sB q cm o).length + 2) 0))) F iX8 tyX8 tyX8_ok nmX8 0 rfl rfl 16 (by decide) tw_874 rfl rfl rfl (Nat.le_of_ble_eq_true rfl) dX8_tell_91 rfl ?_
              refine z_iinc (pc := 94) (v := nI (o + 1)) (lv' := [(0, .ref (r 0)), (1, .int (nI q)), (2, .int (bI cm)), (3, .int (nI (o + 1)))]) F (j := 3) dX8_tell_94 rfl (nI_1 _) (by decide) [1, 2, 3, 0] rfl ?_
              refine z_goto (pc := 97) (tgt := 2) F dX8_tell_97 (by decide) ?_
              have e1 := tl_yes (q := q) k15 k30; have e2 : D ++ tlL nB sB q cm (o + 1) = (D ++ tlL nB sB q cm o) ++ [(q, o, cm)] := (by rw [e1, List.append_assoc]); rw [show (D ++ tlL nB sB q cm o).length + 1 = (D ++ tlL nB sB q cm (o + 1)).length from by rw [e2]; simp; omega]; exact ih2 (o + 1) _ (by omega) (by omega) (by rw [e2]; exact dfR_app hdf (by rw [c75]; rfl))
            · replace c75 := bI_t c75
              refine z_iconst (pc := 78) (v := 1) F dX8_tell_78 (by decide) ?_
              refine z_goto (pc := 79) (tgt := 83) F dX8_tell_79 (by decide) ?_
              refine z_iastN (pc := 83) (ws' := mw E r (mtl S (nI (D ++ tlL nB sB q cm o).length) (upd (upd (upd df (3 * (D ++ tlL nB sB q cm o).length) (nI q)) (3 * (D ++ tlL nB sB q cm o).length + 1) (nI o)) (3 * (D ++ tlL nB sB q cm o).length + 2) 1))) (f := upd (upd df (3 * (D ++ tlL nB sB q cm o).length) (nI q)) (3 * (D ++ tlL nB sB q cm o).length + 1) (nI o)) F 13 0 rfl rfl (3 * (D ++ tlL nB sB q cm o).length + 2) rfl (by omega) (by decide) dX8_tell_83 rfl ?_
              refine z_aload_n (pc := 84) F dX8_tell_84 rfl 0 rfl ?_
              refine z_dup (pc := 85) F dX8_tell_85 rfl ?_
              refine z_get (pc := 86) (v := .int (nI (D ++ tlL nB sB q cm o).length)) F iX8 0 rfl rfl 16 (by decide) tw_874 rfl dX8_tell_86 ?_
              refine z_iconst (pc := 89) (v := 1) F dX8_tell_89 (by decide) ?_
              refine z_iadd (pc := 90) F dX8_tell_90 ?_
              rw [show ((nI (D ++ tlL nB sB q cm o).length) + 1) = nI ((D ++ tlL nB sB q cm o).length + 1) from (nI_1 _)]
              refine z_put (pc := 91) (ws' := mw E r (mtl S (nI ((D ++ tlL nB sB q cm o).length + 1)) (upd (upd (upd df (3 * (D ++ tlL nB sB q cm o).length) (nI q)) (3 * (D ++ tlL nB sB q cm o).length + 1) (nI o)) (3 * (D ++ tlL nB sB q cm o).length + 2) 1))) F iX8 tyX8 tyX8_ok nmX8 0 rfl rfl 16 (by decide) tw_874 rfl rfl rfl (Nat.le_of_ble_eq_true rfl) dX8_tell_91 rfl ?_
              refine z_iinc (pc := 94) (v := nI (o + 1)) (lv' := [(0, .ref (r 0)), (1, .int (nI q)), (2, .int (bI cm)), (3, .int (nI (o + 1)))]) F (j := 3) dX8_tell_94 rfl (nI_1 _) (by decide) [1, 2, 3, 0] rfl ?_
              refine z_goto (pc := 97) (tgt := 2) F dX8_tell_97 (by decide) ?_
              have e1 := tl_yes (q := q) k15 k30; have e2 : D ++ tlL nB sB q cm (o + 1) = (D ++ tlL nB sB q cm o) ++ [(q, o, cm)] := (by rw [e1, List.append_assoc]); rw [show (D ++ tlL nB sB q cm o).length + 1 = (D ++ tlL nB sB q cm (o + 1)).length from by rw [e2]; simp; omega]; exact ih2 (o + 1) _ (by omega) (by omega) (by rw [e2]; exact dfR_app hdf (by rw [c75]; rfl))
          · have k30 : sB o = cm := bI_eq.mp c30
            refine z_goto (pc := 33) (tgt := 94) F dX8_tell_33 (by decide) ?_
            refine z_iinc (pc := 94) (v := nI (o + 1)) (lv' := [(0, .ref (r 0)), (1, .int (nI q)), (2, .int (bI cm)), (3, .int (nI (o + 1)))]) F (j := 3) dX8_tell_94 rfl (nI_1 _) (by decide) [1, 2, 3, 0] rfl ?_
            refine z_goto (pc := 97) (tgt := 2) F dX8_tell_97 (by decide) ?_
            have e1 := tl_no (nB := nB) (sB := sB) (q := q) (o := o) (cm := cm) (by first | exact fun h => k15 h.1 | exact fun h => h.2 k30); rw [← e1]; exact ih2 (o + 1) df (by omega) (by omega) (by rw [e1]; exact hdf)
  have L2z := L2 _ 0 (za S 13) (Nat.lt_succ_self _) (by decide) (by rw [show tlL nB sB q cm 0 = [] from rfl, List.append_nil]; exact hdR)
  rw [show tlL nB sB q cm 0 = [] from rfl, List.append_nil, ← hd] at L2z
  exact L2z
set_option maxHeartbeats 4000000 in
set_option maxRecDepth 100000 in
theorem c_X8_settle (l : Launch) (E : zE) (r : Nat → Nat) (S : zS) (m : Nat) (nq : Nat) (eq : Nat → Nat → Nat) (cq : Nat → Nat) (sB : Nat → Nat → Bool) (hm : m ≤ 60) (hmo : zi S 2 = nI m) (hQ : QS S nq eq cq) (ho : objOk S) (hsB : ∀ q : Nat, q < nq → okSh (za S 14) 60 q (sB q)) : Ct l yX8_settle cX8_settle 3 (some .int) ({ frames := 5, cells := 0, slots := 0, locals := 145 } : Room) E (mw E r S) [.ref (r 0)] (fun v_ w_ => ∃ hh : Int32, ∃ ab : Int32, ∃ f : Nat → Int64, ∃ hg : Nat → Int32, ∃ md : Nat → Int64, ∃ n : Int32, ∃ row : Nat → Int32, ∃ key : Nat → Int64, ∃ grp : Nat → Int64, ∃ sm : Nat → Int64, ∃ nw : Nat → Int32, ∃ df : Nat → Int32, v_ = some (.int (nI (dfl sB (nBf S m eq cq) nq).length)) ∧ w_ = mw E r (mse S hh ab f hg md n row key grp sm (za S 14) nw (nI (dfl sB (nBf S m eq cq) nq).length) df) ∧ (dfR (dfl sB (nBf S m eq cq) nq) df)) := by
  refine Ct.of (by decide) (Nat.le_of_ble_eq_true rfl) (lv := [(0, .ref (r 0))]) rfl ?_
  intro X F hR
  have F : zF X l ({ frames := 5, cells := 0, slots := 0, locals := 145 } : Room) E cX8_settle 3 "LiveQueriesModel" := F
  have hnq := hQ.1
  show Z X 0 0 (mw E r (mse S (zi S 5) (zi S 6) (zb S 15) (za S 16) (zb S 17) (zi S 7) (za S 18) (zb S 19) (zb S 20) (zb S 21) (za S 14) (za S 26) (zi S 4) (za S 13))) [(0, .ref (r 0))] 0 []
  refine z_aload_n (pc := 0) F dX8_settle_0 rfl 0 rfl ?_
  refine z_iconst (pc := 1) (v := 0) F dX8_settle_1 (by decide) ?_
  refine z_put (pc := 2) (ws' := mw E r (mse S (zi S 5) (zi S 6) (zb S 15) (za S 16) (zb S 17) (zi S 7) (za S 18) (zb S 19) (zb S 20) (zb S 21) (za S 14) (za S 26) 0 (za S 13))) F iX8 tyX8 tyX8_ok nmX8 0 rfl rfl 16 (by decide) tw_874 rfl rfl rfl (Nat.le_of_ble_eq_true rfl) dX8_settle_2 rfl ?_
  refine z_iconst (pc := 5) (v := 0) F dX8_settle_5 (by decide) ?_
  refine z_istore_n (pc := 6) (lv' := [(0, .ref (r 0)), (1, .int 0)]) F dX8_settle_6 rfl (by decide) [1, 0] rfl ?_
  have L7 : ∀ (N : Nat) (q : Nat) (hh : Int32) (ab : Int32) (f : Nat → Int64) (hg : Nat → Int32) (md : Nat → Int64) (n : Int32) (row : Nat → Int32) (key : Nat → Int64) (grp : Nat → Int64) (sm : Nat → Int64) (nw : Nat → Int32) (df : Nat → Int32), (nq - q) < N → (q ≤ nq) → (dfR (dfl sB (nBf S m eq cq) q) df) → Z X (0) (0) (mw E r (mse S hh ab f hg md n row key grp sm (za S 14) nw (nI (dfl sB (nBf S m eq cq) q).length) df)) [(0, .ref (r 0)), (1, .int (nI q))] 7 [] := by
    intro N
    induction N with
    | zero => intro q hh ab f hg md n row key grp sm nw df hN; exact absurd hN (Nat.not_lt_zero _)
    | succ N ih7 =>
      intro q hh ab f hg md n row key grp sm nw df hN hqn hdf
      refine z_iload_n (pc := 7) F dX8_settle_7 rfl 1 rfl ?_
      refine z_aload_n (pc := 8) F dX8_settle_8 rfl 0 rfl ?_
      refine z_get (pc := 9) (v := .int (zi S 3)) F iX8 0 rfl rfl 10 (by decide) tw_868 rfl dX8_settle_9 ?_
      rw [show (zi S 3) = nI nq from hQ.2.1]
      refine z_icmp_ge (pc := 12) (tgt := 88) F dX8_settle_12 (by decide) (fun c12 => ?_) (fun c12 => ?_)
      · have hqe : q = nq := Nat.le_antisymm hqn (gI (by omega) (by omega) c12)
        subst hqe
        refine z_aload_n (pc := 88) F dX8_settle_88 rfl 0 rfl ?_
        refine z_get (pc := 89) (v := .int (nI (dfl sB (nBf S m eq cq) q).length)) F iX8 0 rfl rfl 16 (by decide) tw_874 rfl dX8_settle_89 ?_
        exact z_iret (pc := 92) F hR dX8_settle_92 (Nat.le_of_ble_eq_true rfl) (Nat.le_of_ble_eq_true rfl) ⟨hh, ab, f, hg, md, n, row, key, grp, sm, nw, df, rfl, rfl, hdf⟩
      · have hqlt := ngI (by omega) (by omega) c12
        obtain ⟨hqo, hcq, hc2⟩ := hQ.2.2 q hqlt
        refine z_aload_n (pc := 15) F dX8_settle_15 rfl 0 rfl ?_
        refine z_iload_n (pc := 16) F dX8_settle_16 rfl 1 rfl ?_
        refine z_callVW (pc := 17) (q0 := 0) (ci := 8) (rest := []) F (c_X8_find2 l E r (mse S hh ab f hg md n row key grp sm (za S 14) nw (nI (dfl sB (nBf S m eq cq) q).length) df) q (eq q) m (by omega) hm hmo (qok_of (S := S) (S' := (mse S hh ab f hg md n row key grp sm (za S 14) nw (nI (dfl sB (nBf S m eq cq) q).length) df)) rfl rfl hqo) ho) 1 ww_Model_137 (by decide +kernel) rfl ⟨Nat.le_of_ble_eq_true rfl, Nat.le_of_ble_eq_true rfl⟩ ⟨Nat.le_of_ble_eq_true rfl, Nat.le_of_ble_eq_true rfl⟩ rfl rfl rfl rfl (Nat.le_of_ble_eq_true rfl) dX8_settle_17 (fun v_ w1_ hp => ?_)
        obtain ⟨hh1, ab1, f1, hg1, md1, row1, key1, grp1, sm1, rfl, rfl, h17_0⟩ := hp
        show Z X (0) (0) (mw E r (mse S hh1 ab1 f1 hg1 md1 (nI (fL S q (eq q) m).length) row1 key1 grp1 sm1 (za S 14) nw (nI (dfl sB (nBf S m eq cq) q).length) df)) [(0, .ref (r 0)), (1, .int (nI q))] 20 []
        have h17_0 : hoR (fL S q (eq q) m) row1 key1 grp1 sm1 := h17_0
        have hfl := fL_len S q (eq q) m
        refine z_iconst (pc := 20) (v := 0) F dX8_settle_20 (by decide) ?_
        refine z_istore_n (pc := 21) (lv' := [(0, .ref (r 0)), (1, .int (nI q)), (2, .int 0)]) F dX8_settle_21 rfl (by decide) [1, 2, 0] rfl ?_
        have L22 : ∀ (N : Nat) (i : Nat) (nw' : Nat → Int32), (60 - i) < N → (i ≤ 60) → (okSh nw' i 0 (fun _ => false)) → Z X (0) (0) (mw E r (mse S hh1 ab1 f1 hg1 md1 (nI (fL S q (eq q) m).length) row1 key1 grp1 sm1 (za S 14) nw' (nI (dfl sB (nBf S m eq cq) q).length) df)) [(0, .ref (r 0)), (1, .int (nI q)), (2, .int (nI i))] 22 [] := by
          intro N
          induction N with
          | zero => intro i nw' hN; exact absurd hN (Nat.not_lt_zero _)
          | succ N ih22 =>
            intro i nw' hN hi hcl
            refine z_iload_n (pc := 22) F dX8_settle_22 rfl 2 rfl ?_
            refine z_bipush (pc := 23) (v := 60) F dX8_settle_23 (by decide) ?_
            refine z_icmp_ge (pc := 25) (tgt := 41) F dX8_settle_25 (by decide) (fun c25 => ?_) (fun c25 => ?_)
            · have hi6 : i = 60 := Nat.le_antisymm hi (gI (a := 60) (by decide) (by omega) c25)
              subst hi6
              refine z_iconst (pc := 41) (v := 0) F dX8_settle_41 (by decide) ?_
              refine z_istore_n (pc := 42) (lv' := [(0, .ref (r 0)), (1, .int (nI q)), (2, .int 0)]) F dX8_settle_42 rfl (by decide) [1, 2, 0] rfl ?_
              have L43 : ∀ (N : Nat) (k : Nat) (nw2 : Nat → Int32), (shN (cq q) (fL S q (eq q) m).length - k) < N → (k ≤ shN (cq q) (fL S q (eq q) m).length) → (okSh nw2 60 0 (isSh (fL S q (eq q) m) k)) → Z X (0) (0) (mw E r (mse S hh1 ab1 f1 hg1 md1 (nI (fL S q (eq q) m).length) row1 key1 grp1 sm1 (za S 14) nw2 (nI (dfl sB (nBf S m eq cq) q).length) df)) [(0, .ref (r 0)), (1, .int (nI q)), (2, .int (nI k))] 43 [] := by
                intro N
                induction N with
                | zero => intro k nw2 hN; exact absurd hN (Nat.not_lt_zero _)
                | succ N ih43 =>
                  intro k nw2 hN hk hs
                  have hsl := shN_le (cq q) (fL S q (eq q) m).length
                  refine z_iload_n (pc := 43) F dX8_settle_43 rfl 2 rfl ?_
                  refine z_aload_n (pc := 44) F dX8_settle_44 rfl 0 rfl ?_
                  refine z_iload_n (pc := 45) F dX8_settle_45 rfl 1 rfl ?_
                  refine z_callVW (pc := 46) (q0 := 0) (ci := 8) (rest := [.int (nI k)]) F (c_X8_shows l E r (mse S hh1 ab1 f1 hg1 md1 (nI (fL S q (eq q) m).length) row1 key1 grp1 sm1 (za S 14) nw2 (nI (dfl sB (nBf S m eq cq) q).length) df) q (cq q) ((fL S q (eq q) m).length) (by omega) hcq hc2 rfl (Nat.le_trans (fL_len _ _ _ _) hm)) 1 ww_Model_151 (by decide +kernel) rfl ⟨Nat.le_of_ble_eq_true rfl, Nat.le_of_ble_eq_true rfl⟩ ⟨Nat.le_of_ble_eq_true rfl, Nat.le_of_ble_eq_true rfl⟩ rfl rfl rfl rfl (Nat.le_of_ble_eq_true rfl) dX8_settle_46 (fun v_ w1_ hp => ?_)
                  obtain ⟨rfl, rfl⟩ := hp
                  show Z X (0) (0) (mw E r (mse S hh1 ab1 f1 hg1 md1 (nI (fL S q (eq q) m).length) row1 key1 grp1 sm1 (za S 14) nw2 (nI (dfl sB (nBf S m eq cq) q).length) df)) [(0, .ref (r 0)), (1, .int (nI q)), (2, .int (nI k))] 49 [.int (nI (shN (cq q) ((fL S q (eq q) m).length))), .int (nI k)]
                  refine z_icmp_ge (pc := 49) (tgt := 70) F dX8_settle_49 (by decide) (fun c49 => ?_) (fun c49 => ?_)
                  · have hkk : k = shN (cq q) (fL S q (eq q) m).length := Nat.le_antisymm hk (gI (by omega) (by omega) c49)
                    subst hkk
                    refine z_aload_n (pc := 70) F dX8_settle_70 rfl 0 rfl ?_
                    refine z_iload_n (pc := 71) F dX8_settle_71 rfl 1 rfl ?_
                    refine z_iconst (pc := 72) (v := 0) F dX8_settle_72 (by decide) ?_
                    refine z_callVW (pc := 73) (q0 := 0) (ci := 8) (rest := []) F (c_X8_tell l E r (mse S hh1 ab1 f1 hg1 md1 (nI (fL S q (eq q) m).length) row1 key1 grp1 sm1 (za S 14) nw2 (nI (dfl sB (nBf S m eq cq) q).length) df) q false (nBf S m eq cq q) (sB q) (dfl sB (nBf S m eq cq) q) (by omega) rfl hdf hs (hsB q hqlt) (by have h1 := tlL_len (nBf S m eq cq q) (sB q) q 60; have h2 := dfl_len sB (nBf S m eq cq) q;  omega)) 2 ww_Model_158 (by decide +kernel) rfl ⟨Nat.le_of_ble_eq_true rfl, Nat.le_of_ble_eq_true rfl⟩ ⟨Nat.le_of_ble_eq_true rfl, Nat.le_of_ble_eq_true rfl⟩ rfl rfl rfl rfl (Nat.le_of_ble_eq_true rfl) dX8_settle_73 (fun v_ w1_ hp => ?_)
                    obtain ⟨df2, rfl, rfl, h73_0⟩ := hp
                    show Z X (0) (0) (mw E r (mse S hh1 ab1 f1 hg1 md1 (nI (fL S q (eq q) m).length) row1 key1 grp1 sm1 (za S 14) nw2 (nI ((dfl sB (nBf S m eq cq) q) ++ tlL (nBf S m eq cq q) (sB q) q false 60).length) df2)) [(0, .ref (r 0)), (1, .int (nI q)), (2, .int (nI (shN (cq q) (fL S q (eq q) m).length)))] 76 []
                    refine z_aload_n (pc := 76) F dX8_settle_76 rfl 0 rfl ?_
                    refine z_iload_n (pc := 77) F dX8_settle_77 rfl 1 rfl ?_
                    refine z_iconst (pc := 78) (v := 1) F dX8_settle_78 (by decide) ?_
                    refine z_callVW (pc := 79) (q0 := 0) (ci := 8) (rest := []) F (c_X8_tell l E r (mse S hh1 ab1 f1 hg1 md1 (nI (fL S q (eq q) m).length) row1 key1 grp1 sm1 (za S 14) nw2 (nI ((dfl sB (nBf S m eq cq) q) ++ tlL (nBf S m eq cq q) (sB q) q false 60).length) df2) q true (nBf S m eq cq q) (sB q) ((dfl sB (nBf S m eq cq) q) ++ tlL (nBf S m eq cq q) (sB q) q false 60) (by omega) rfl h73_0 hs (hsB q hqlt) (by have h1 := tlL_len (nBf S m eq cq q) (sB q) q 60; have h2 := dfl_len sB (nBf S m eq cq) q; rw [List.length_append]; omega)) 2 ww_Model_158 (by decide +kernel) rfl ⟨Nat.le_of_ble_eq_true rfl, Nat.le_of_ble_eq_true rfl⟩ ⟨Nat.le_of_ble_eq_true rfl, Nat.le_of_ble_eq_true rfl⟩ rfl rfl rfl rfl (Nat.le_of_ble_eq_true rfl) dX8_settle_79 (fun v_ w1_ hp => ?_)
                    obtain ⟨df3, rfl, rfl, h79_0⟩ := hp
                    show Z X (0) (0) (mw E r (mse S hh1 ab1 f1 hg1 md1 (nI (fL S q (eq q) m).length) row1 key1 grp1 sm1 (za S 14) nw2 (nI (((dfl sB (nBf S m eq cq) q) ++ tlL (nBf S m eq cq q) (sB q) q false 60) ++ tlL (nBf S m eq cq q) (sB q) q true 60).length) df3)) [(0, .ref (r 0)), (1, .int (nI q)), (2, .int (nI (shN (cq q) (fL S q (eq q) m).length)))] 82 []
                    refine z_iinc (pc := 82) (v := nI (q + 1)) (lv' := [(0, .ref (r 0)), (1, .int (nI (q + 1))), (2, .int (nI (shN (cq q) (fL S q (eq q) m).length)))]) F (j := 1) dX8_settle_82 rfl (nI_1 _) (by decide) [1, 0, 2] rfl ?_
                    refine z_goto (pc := 85) (tgt := 7) F dX8_settle_85 (by decide) ?_
                    refine z_locals (lv' := [(0, .ref (r 0)), (1, .int (nI (q + 1)))]) [0, 1] rfl ?_
                    rw [show (((dfl sB (nBf S m eq cq) q) ++ tlL (nBf S m eq cq q) (sB q) q false 60) ++ tlL (nBf S m eq cq q) (sB q) q true 60).length = (dfl sB (nBf S m eq cq) (q + 1)).length from by rw [dfl, List.append_assoc]]; exact ih7 (q + 1) hh1 ab1 f1 hg1 md1 (nI (fL S q (eq q) m).length) row1 key1 grp1 sm1 nw2 df3 (by omega) (by omega) (by rw [dfl, ← List.append_assoc]; exact h79_0)
                  · have hklt := ngI (by omega) (by omega) c49
                    obtain ⟨x, hx⟩ : ∃ x, (fL S q (eq q) m)[k]? = some x := ⟨_, List.getElem?_eq_getElem (by omega)⟩
                    have hxm := fL_lt hx
                    obtain ⟨hr1, -⟩ := h17_0 k x hx
                    refine z_aload_n (pc := 52) F dX8_settle_52 rfl 0 rfl ?_
                    refine z_get (pc := 53) (v := .ref (r 26)) F iX8 0 rfl rfl 34 (by decide) tw_892 rfl dX8_settle_53 ?_
                    refine z_aload_n (pc := 56) F dX8_settle_56 rfl 0 rfl ?_
                    refine z_get (pc := 57) (v := .ref (r 18)) F iX8 0 rfl rfl 25 (by decide) tw_883 rfl dX8_settle_57 ?_
                    refine z_iload_n (pc := 60) F dX8_settle_60 rfl 2 rfl ?_
                    refine z_ialdN (pc := 61) (f := row1) F 18 0 rfl rfl k rfl (by omega) (by decide) dX8_settle_61 ?_
                    rw [show ((row1) k) = nI x.1 from hr1]
                    refine z_iconst (pc := 62) (v := 1) F dX8_settle_62 (by decide) ?_
                    refine z_zastN (pc := 63) (ws' := mw E r (mse S hh1 ab1 f1 hg1 md1 (nI (fL S q (eq q) m).length) row1 key1 grp1 sm1 (za S 14) (upd nw2 (60 * 0 + x.1) 1) (nI (dfl sB (nBf S m eq cq) q).length) df)) (f := nw2) F 26 2 rfl rfl (60 * 0 + x.1) (by simp) (by omega) (by decide) rfl dX8_settle_63 rfl ?_
                    refine z_iinc (pc := 64) (v := nI (k + 1)) (lv' := [(0, .ref (r 0)), (1, .int (nI q)), (2, .int (nI (k + 1)))]) F (j := 2) dX8_settle_64 rfl (nI_1 _) (by decide) [1, 2, 0] rfl ?_
                    refine z_goto (pc := 67) (tgt := 43) F dX8_settle_67 (by decide) ?_
                    exact ih43 (k + 1) _ (by omega) (by omega) (okSh_s hs hx)
              exact L43 _ 0 nw' (Nat.lt_succ_self _) (Nat.zero_le _) (okSh_0 _ hcl)
            · have hi6 := ngI (a := 60) (by decide) (by omega) c25
              refine z_aload_n (pc := 28) F dX8_settle_28 rfl 0 rfl ?_
              refine z_get (pc := 29) (v := .ref (r 26)) F iX8 0 rfl rfl 34 (by decide) tw_892 rfl dX8_settle_29 ?_
              refine z_iload_n (pc := 32) F dX8_settle_32 rfl 2 rfl ?_
              refine z_iconst (pc := 33) (v := 0) F dX8_settle_33 (by decide) ?_
              refine z_zastN (pc := 34) (ws' := mw E r (mse S hh1 ab1 f1 hg1 md1 (nI (fL S q (eq q) m).length) row1 key1 grp1 sm1 (za S 14) (upd nw' (60 * 0 + i) 0) (nI (dfl sB (nBf S m eq cq) q).length) df)) (f := nw') F 26 2 rfl rfl (60 * 0 + i) (by simp) (by omega) (by decide) rfl dX8_settle_34 rfl ?_
              refine z_iinc (pc := 35) (v := nI (i + 1)) (lv' := [(0, .ref (r 0)), (1, .int (nI q)), (2, .int (nI (i + 1)))]) F (j := 2) dX8_settle_35 rfl (nI_1 _) (by decide) [1, 2, 0] rfl ?_
              refine z_goto (pc := 38) (tgt := 22) F dX8_settle_38 (by decide) ?_
              exact ih22 (i + 1) _ (by omega) (by omega) (okSh_c hcl)
        exact L22 _ 0 nw (Nat.lt_succ_self _) (by decide) (fun o ho => absurd ho (Nat.not_lt_zero _))
  exact L7 _ 0 (zi S 5) (zi S 6) (zb S 15) (za S 16) (zb S 17) (zi S 7) (za S 18) (zb S 19) (zb S 20) (zb S 21) (za S 26) (za S 13) (Nat.lt_succ_self _) (Nat.zero_le _) (fun i x hx => by simp [dfl] at hx)

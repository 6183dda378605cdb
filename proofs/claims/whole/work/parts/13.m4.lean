set_option maxHeartbeats 4000000 in
set_option maxRecDepth 100000 in
theorem c_X8_work (l : Launch) (E : zE) (r : Nat → Nat) (S : zS) (q : Nat) (ro : Nat) (e : Nat → Nat) (hq : q < 6) (hro : ro < 60) (hqo : qok S q e) (ho : objOk S) : Ct l yX8_work cX8_work 6 (some .boolean) ({ frames := 3, cells := 0, slots := 0, locals := 95 } : Room) E (mw E r S) [.ref (r 0), .int (nI q), .int (nI ro)] (fun v_ w_ => v_ = some (.int (bI (decide ((wkp S ro e (wk0 S) 4).1 = 0 ∧ ¬ wkm S ro e (wk0 S) 0 = 0)))) ∧ w_ = mw E r (mwk S (nI 0) ((wkp S ro e (wk0 S) 4).1) ((wkp S ro e (wk0 S) 4).2.1) ((wkp S ro e (wk0 S) 4).2.2) (wkmd S ro e))) := by
  refine Ct.of (by decide) (Nat.le_of_ble_eq_true rfl) (lv := [(0, .ref (r 0)), (1, .int (nI q)), (2, .int (nI ro))]) rfl ?_
  intro X F hR
  have F : zF X l ({ frames := 3, cells := 0, slots := 0, locals := 95 } : Room) E cX8_work 6 "LiveQueriesModel" := F
  obtain ⟨he0, hmono, he4, hE, hcd, hty4⟩ := hqo
  have m0 : e 0 ≤ e 1 := hmono 0 (by decide)
  have m1 : e 1 ≤ e 2 := hmono 1 (by decide)
  have m2 : e 2 ≤ e 3 := hmono 2 (by decide)
  have m3 : e 3 ≤ e 4 := hmono 3 (by decide)
  have hE0 : za S 10 (4 * q + 0) = nI (e 1) := hE 0 (by decide)
  have hE1 : za S 10 (4 * q + 1) = nI (e 2) := hE 1 (by decide)
  have hE2 : za S 10 (4 * q + 2) = nI (e 3) := hE 2 (by decide)
  have hE3 : za S 10 (4 * q + 3) = nI (e 4) := hE 3 (by decide)
  show Z X 0 0 (mw E r (mwk S (zi S 5) (zi S 6) (zb S 15) (za S 16) (zb S 17))) [(0, .ref (r 0)), (1, .int (nI q)), (2, .int (nI ro))] 0 []
  refine z_aload_n (pc := 0) F dX8_work_0 rfl 0 rfl ?_
  refine z_iconst (pc := 1) (v := 0) F dX8_work_1 (by decide) ?_
  refine z_put (pc := 2) (ws' := mw E r (mwk S (zi S 5) 0 (zb S 15) (za S 16) (zb S 17))) F iX8 tyX8 tyX8_ok nmX8 0 rfl rfl 21 (by decide) tw_879 rfl rfl rfl (Nat.le_of_ble_eq_true rfl) dX8_work_2 rfl ?_
  refine z_iconst (pc := 5) (v := 0) F dX8_work_5 (by decide) ?_
  refine z_istore_n (pc := 6) (lv' := [(0, .ref (r 0)), (1, .int (nI q)), (2, .int (nI ro)), (3, .int 0)]) F dX8_work_6 rfl (by decide) [1, 2, 3, 0] rfl ?_
  have L7 : ∀ (N : Nat) (i : Nat), (60 - i) < N → (i ≤ 60) → Z X (0) (0) (mw E r (mwk S (zi S 5) 0 (zb S 15) (hgz (za S 16) i) (zb S 17))) [(0, .ref (r 0)), (1, .int (nI q)), (2, .int (nI ro)), (3, .int (nI i))] 7 [] := by
    intro N
    induction N with
    | zero => intro i hN; exact absurd hN (Nat.not_lt_zero _)
    | succ N ih7 =>
      intro i hN hi
      refine z_iload_n (pc := 7) F dX8_work_7 rfl 3 rfl ?_
      refine z_bipush (pc := 8) (v := 60) F dX8_work_8 (by decide) ?_
      refine z_icmp_ge (pc := 10) (tgt := 26) F dX8_work_10 (by decide) (fun c10 => ?_) (fun c10 => ?_)
      · have hi6 : i = 60 := Nat.le_antisymm hi (gI (a := 60) (by decide) (by omega) c10)
        subst hi6
        refine z_sipush (pc := 26) (v := 240) F dX8_work_26 (by decide) ?_
        refine z_iload_n (pc := 29) F dX8_work_29 rfl 1 rfl ?_
        refine z_imul (pc := 30) F dX8_work_30 ?_
        rw [show (240 * (nI q)) = nI (e 0) from (by rw [he0]; exact mulL 240 q)]
        refine z_istore_n (pc := 31) (lv' := [(0, .ref (r 0)), (1, .int (nI q)), (2, .int (nI ro)), (3, .int (nI (e 0)))]) F dX8_work_31 rfl (by decide) [1, 2, 3, 0] rfl ?_
        refine z_iconst (pc := 32) (v := 0) F dX8_work_32 (by decide) ?_
        refine z_istore (pc := 33) (lv' := [(0, .ref (r 0)), (1, .int (nI q)), (2, .int (nI ro)), (3, .int (nI (e 0))), (4, .int 0)]) F dX8_work_33 (by decide) [1, 2, 3, 4, 0] rfl ?_
        refine z_iload (pc := 35) F dX8_work_35 4 rfl ?_
        refine z_iconst (pc := 37) (v := 4) F dX8_work_37 (by decide) ?_
        refine z_icmp_ge (pc := 38) (tgt := 133) F dX8_work_38 (by decide) (fun h => absurd h (by decide)) (fun _ => ?_)
        refine z_aload_n (pc := 41) F dX8_work_41 rfl 0 rfl ?_
        refine z_iconst (pc := 42) (v := 0) F dX8_work_42 (by decide) ?_
        refine z_put (pc := 43) (ws' := mw E r (mwk S 0 0 (zb S 15) (hgz (za S 16) 60) (zb S 17))) F iX8 tyX8 tyX8_ok nmX8 0 rfl rfl 19 (by decide) tw_877 rfl rfl rfl (Nat.le_of_ble_eq_true rfl) dX8_work_43 rfl ?_
        refine z_iload_n (pc := 46) F dX8_work_46 rfl 3 rfl ?_
        refine z_istore (pc := 47) (lv' := [(0, .ref (r 0)), (1, .int (nI q)), (2, .int (nI ro)), (3, .int (nI (e 0))), (4, .int 0), (5, .int (nI (e 0)))]) F dX8_work_47 (by decide) [1, 2, 3, 4, 5, 0] rfl ?_
        have L49_0 : ∀ (N : Nat) (kk : Nat) (t : List Bool) (p : zP), (e 1 - kk) < N → (e 0 ≤ kk) → (kk ≤ e 1) → (tyr S kk (e 1 - kk) t = some (if e 1 = e 0 then [] else [false])) → (rrn S ro kk (e 1 - kk) t p = (wkp S ro e (wk0 S) 1)) → (rsOk p.2.1 t) → (t.length ≤ kk - e 0) → Z X (0) (0) (mw E r (mwk S (nI t.length) (p.1) (p.2.1) (p.2.2) (zb S 17))) [(0, .ref (r 0)), (1, .int (nI q)), (2, .int (nI ro)), (4, .int 0), (5, .int (nI kk))] 49 [] := by
          intro N
          induction N with
          | zero => intro kk t p hN; exact absurd hN (Nat.not_lt_zero _)
          | succ N ih49_0 =>
            intro kk t p hN hk1 hk2 hty hrr hok hlen
            refine z_iload (pc := 49) F dX8_work_49 4 rfl ?_
            refine z_aload_n (pc := 51) F dX8_work_51 rfl 0 rfl ?_
            refine z_get (pc := 52) (v := .ref (r 10)) F iX8 0 rfl rfl 13 (by decide) tw_871 rfl dX8_work_52 ?_
            refine z_iconst (pc := 55) (v := 4) F dX8_work_55 (by decide) ?_
            refine z_iload_n (pc := 56) F dX8_work_56 rfl 1 rfl ?_
            refine z_imul (pc := 57) F dX8_work_57 ?_
            refine z_iload (pc := 58) F dX8_work_58 3 rfl ?_
            refine z_iadd (pc := 60) F dX8_work_60 ?_
            refine z_ialdN (pc := 61) (f := za S 10) F 10 0 rfl rfl (4 * q + 0) (ix4 q 0) (by omega) (by decide) dX8_work_61 ?_
            rw [show (za S 10 (4 * q + 0)) = nI (e 1) from hE0]
            refine z_icmp_ge (pc := 62) (tgt := 78) F dX8_work_62 (by decide) (fun c62 => ?_) (fun c62 => ?_)
            · have hkk : kk = e 1 := Nat.le_antisymm hk2 (gI (by omega) (by omega) c62)
              subst hkk
              rw [Nat.sub_self] at hty hrr
              have ht := Option.some.inj hty
              have hp : p = (wkp S ro e (wk0 S) 1) := hrr
              subst hp
              rcases Classical.em (e 1 = e 0) with hz0 | hz0
              · rw [if_pos hz0] at ht
                subst ht
                have hv0 : wkm S ro e (wk0 S) 0 = 1 := by rw [wkm, if_pos hz0]; rfl
                refine z_aload_n (pc := 78) F dX8_work_78 rfl 0 rfl ?_
                refine z_get (pc := 79) (v := .ref (r 17)) F iX8 0 rfl rfl 23 (by decide) tw_881 rfl dX8_work_79 ?_
                refine z_iload (pc := 82) F dX8_work_82 3 rfl ?_
                refine z_aload_n (pc := 84) F dX8_work_84 rfl 0 rfl ?_
                refine z_get (pc := 85) (v := .int (nI ([] : List Bool).length)) F iX8 0 rfl rfl 19 (by decide) tw_877 rfl dX8_work_85 ?_
                rw [show (nI ([] : List Bool).length) = nI 0 from rfl]
                refine z_if_le (pc := 88) (tgt := 98) F dX8_work_88 (by decide) (fun _ => ?_) (fun h => absurd h (by decide))
                refine z_iload (pc := 98) F dX8_work_98 3 rfl ?_
                refine z_if_eq (pc := 100) (tgt := 109) F dX8_work_100 (by decide) (fun _ => ?_) (fun h => absurd h (by decide))
                refine z_lconst (pc := 109) (v := 1) F dX8_work_109 (by decide) ?_
                refine z_goto (pc := 110) (tgt := 114) F dX8_work_110 (by decide) ?_
                refine z_lastN (pc := 114) (ws' := mw E r (mwk S (nI ([] : List Bool).length) ((wkp S ro e (wk0 S) 1).1) ((wkp S ro e (wk0 S) 1).2.1) ((wkp S ro e (wk0 S) 1).2.2) (vp_updL (zb S 17) 0 1))) (f := zb S 17) F 17 1 rfl rfl 0 (by decide) (by omega) (by decide) dX8_work_114 rfl ?_
                refine z_aload_n (pc := 115) F dX8_work_115 rfl 0 rfl ?_
                refine z_get (pc := 116) (v := .ref (r 10)) F iX8 0 rfl rfl 13 (by decide) tw_871 rfl dX8_work_116 ?_
                refine z_iconst (pc := 119) (v := 4) F dX8_work_119 (by decide) ?_
                refine z_iload_n (pc := 120) F dX8_work_120 rfl 1 rfl ?_
                refine z_imul (pc := 121) F dX8_work_121 ?_
                refine z_iload (pc := 122) F dX8_work_122 3 rfl ?_
                refine z_iadd (pc := 124) F dX8_work_124 ?_
                refine z_ialdN (pc := 125) (f := za S 10) F 10 0 rfl rfl (4 * q + 0) (ix4 q 0) (by omega) (by decide) dX8_work_125 ?_
                rw [show (za S 10 (4 * q + 0)) = nI (e 1) from hE0]
                refine z_istore_n (pc := 126) (lv' := [(0, .ref (r 0)), (1, .int (nI q)), (2, .int (nI ro)), (3, .int (nI (e 1))), (4, .int 0), (5, .int (nI (e 1)))]) F dX8_work_126 rfl (by decide) [1, 2, 3, 0, 4, 5] rfl ?_
                refine z_iinc (pc := 127) (v := 1) (lv' := [(0, .ref (r 0)), (1, .int (nI q)), (2, .int (nI ro)), (3, .int (nI (e 1))), (4, .int 1), (5, .int (nI (e 1)))]) F (j := 4) dX8_work_127 rfl (by decide) (by decide) [1, 2, 3, 4, 0, 5] rfl ?_
                refine z_goto (pc := 130) (tgt := 35) F dX8_work_130 (by decide) ?_
                refine z_iload (pc := 35) F dX8_work_35 4 rfl ?_
                refine z_iconst (pc := 37) (v := 4) F dX8_work_37 (by decide) ?_
                refine z_icmp_ge (pc := 38) (tgt := 133) F dX8_work_38 (by decide) (fun h => absurd h (by decide)) (fun _ => ?_)
                refine z_aload_n (pc := 41) F dX8_work_41 rfl 0 rfl ?_
                refine z_iconst (pc := 42) (v := 0) F dX8_work_42 (by decide) ?_
                refine z_put (pc := 43) (ws' := mw E r (mwk S 0 ((wkp S ro e (wk0 S) 1).1) ((wkp S ro e (wk0 S) 1).2.1) ((wkp S ro e (wk0 S) 1).2.2) (vp_updL (zb S 17) 0 1))) F iX8 tyX8 tyX8_ok nmX8 0 rfl rfl 19 (by decide) tw_877 rfl rfl rfl (Nat.le_of_ble_eq_true rfl) dX8_work_43 rfl ?_
                refine z_iload_n (pc := 46) F dX8_work_46 rfl 3 rfl ?_
                refine z_istore (pc := 47) (lv' := [(0, .ref (r 0)), (1, .int (nI q)), (2, .int (nI ro)), (3, .int (nI (e 1))), (4, .int 1), (5, .int (nI (e 1)))]) F dX8_work_47 (by decide) [1, 2, 3, 4, 5, 0] rfl ?_
                have L49_1 : ∀ (N : Nat) (kk : Nat) (t : List Bool) (p : zP), (e 2 - kk) < N → (e 1 ≤ kk) → (kk ≤ e 2) → (tyr S kk (e 2 - kk) t = some (if e 2 = e 1 then [] else [false])) → (rrn S ro kk (e 2 - kk) t p = (wkp S ro e (wk0 S) 2)) → (rsOk p.2.1 t) → (t.length ≤ kk - e 1) → Z X (0) (0) (mw E r (mwk S (nI t.length) (p.1) (p.2.1) (p.2.2) (vp_updL (zb S 17) 0 1))) [(0, .ref (r 0)), (1, .int (nI q)), (2, .int (nI ro)), (4, .int 1), (5, .int (nI kk))] 49 [] := by
                  intro N
                  induction N with
                  | zero => intro kk t p hN; exact absurd hN (Nat.not_lt_zero _)
                  | succ N ih49_1 =>
                    intro kk t p hN hk1 hk2 hty hrr hok hlen
                    refine z_iload (pc := 49) F dX8_work_49 4 rfl ?_
                    refine z_aload_n (pc := 51) F dX8_work_51 rfl 0 rfl ?_
                    refine z_get (pc := 52) (v := .ref (r 10)) F iX8 0 rfl rfl 13 (by decide) tw_871 rfl dX8_work_52 ?_
                    refine z_iconst (pc := 55) (v := 4) F dX8_work_55 (by decide) ?_
                    refine z_iload_n (pc := 56) F dX8_work_56 rfl 1 rfl ?_
                    refine z_imul (pc := 57) F dX8_work_57 ?_
                    refine z_iload (pc := 58) F dX8_work_58 3 rfl ?_
                    refine z_iadd (pc := 60) F dX8_work_60 ?_
                    refine z_ialdN (pc := 61) (f := za S 10) F 10 0 rfl rfl (4 * q + 1) (ix4 q 1) (by omega) (by decide) dX8_work_61 ?_
                    rw [show (za S 10 (4 * q + 1)) = nI (e 2) from hE1]
                    refine z_icmp_ge (pc := 62) (tgt := 78) F dX8_work_62 (by decide) (fun c62 => ?_) (fun c62 => ?_)
                    · have hkk : kk = e 2 := Nat.le_antisymm hk2 (gI (by omega) (by omega) c62)
                      subst hkk
                      rw [Nat.sub_self] at hty hrr
                      have ht := Option.some.inj hty
                      have hp : p = (wkp S ro e (wk0 S) 2) := hrr
                      subst hp
                      rcases Classical.em (e 2 = e 1) with hz1 | hz1
                      · rw [if_pos hz1] at ht
                        subst ht
                        have hv1 : wkm S ro e (wk0 S) 1 = 0 := by rw [wkm, if_pos hz1]; rfl
                        refine z_aload_n (pc := 78) F dX8_work_78 rfl 0 rfl ?_
                        refine z_get (pc := 79) (v := .ref (r 17)) F iX8 0 rfl rfl 23 (by decide) tw_881 rfl dX8_work_79 ?_
                        refine z_iload (pc := 82) F dX8_work_82 3 rfl ?_
                        refine z_aload_n (pc := 84) F dX8_work_84 rfl 0 rfl ?_
                        refine z_get (pc := 85) (v := .int (nI ([] : List Bool).length)) F iX8 0 rfl rfl 19 (by decide) tw_877 rfl dX8_work_85 ?_
                        rw [show (nI ([] : List Bool).length) = nI 0 from rfl]
                        refine z_if_le (pc := 88) (tgt := 98) F dX8_work_88 (by decide) (fun _ => ?_) (fun h => absurd h (by decide))
                        refine z_iload (pc := 98) F dX8_work_98 3 rfl ?_
                        refine z_if_eq (pc := 100) (tgt := 109) F dX8_work_100 (by decide) (fun h => absurd h (by decide)) (fun _ => ?_)
                        refine z_iload (pc := 103) F dX8_work_103 3 rfl ?_
                        refine z_iconst (pc := 105) (v := 3) F dX8_work_105 (by decide) ?_
                        refine z_icmp_ne (pc := 106) (tgt := 113) F dX8_work_106 (by decide) (fun _ => ?_) (fun h => absurd h (by decide))
                        refine z_lconst (pc := 113) (v := 0) F dX8_work_113 (by decide) ?_
                        refine z_lastN (pc := 114) (ws' := mw E r (mwk S (nI ([] : List Bool).length) ((wkp S ro e (wk0 S) 2).1) ((wkp S ro e (wk0 S) 2).2.1) ((wkp S ro e (wk0 S) 2).2.2) (vp_updL (vp_updL (zb S 17) 0 1) 1 0))) (f := vp_updL (zb S 17) 0 1) F 17 1 rfl rfl 1 (by decide) (by omega) (by decide) dX8_work_114 rfl ?_
                        refine z_aload_n (pc := 115) F dX8_work_115 rfl 0 rfl ?_
                        refine z_get (pc := 116) (v := .ref (r 10)) F iX8 0 rfl rfl 13 (by decide) tw_871 rfl dX8_work_116 ?_
                        refine z_iconst (pc := 119) (v := 4) F dX8_work_119 (by decide) ?_
                        refine z_iload_n (pc := 120) F dX8_work_120 rfl 1 rfl ?_
                        refine z_imul (pc := 121) F dX8_work_121 ?_
                        refine z_iload (pc := 122) F dX8_work_122 3 rfl ?_
                        refine z_iadd (pc := 124) F dX8_work_124 ?_
                        refine z_ialdN (pc := 125) (f := za S 10) F 10 0 rfl rfl (4 * q + 1) (ix4 q 1) (by omega) (by decide) dX8_work_125 ?_
                        rw [show (za S 10 (4 * q + 1)) = nI (e 2) from hE1]
                        refine z_istore_n (pc := 126) (lv' := [(0, .ref (r 0)), (1, .int (nI q)), (2, .int (nI ro)), (3, .int (nI (e 2))), (4, .int 1), (5, .int (nI (e 2)))]) F dX8_work_126 rfl (by decide) [1, 2, 3, 0, 4, 5] rfl ?_
                        refine z_iinc (pc := 127) (v := 2) (lv' := [(0, .ref (r 0)), (1, .int (nI q)), (2, .int (nI ro)), (3, .int (nI (e 2))), (4, .int 2), (5, .int (nI (e 2)))]) F (j := 4) dX8_work_127 rfl (by decide) (by decide) [1, 2, 3, 4, 0, 5] rfl ?_
                        refine z_goto (pc := 130) (tgt := 35) F dX8_work_130 (by decide) ?_
                        refine z_iload (pc := 35) F dX8_work_35 4 rfl ?_
                        refine z_iconst (pc := 37) (v := 4) F dX8_work_37 (by decide) ?_
                        refine z_icmp_ge (pc := 38) (tgt := 133) F dX8_work_38 (by decide) (fun h => absurd h (by decide)) (fun _ => ?_)
                        refine z_aload_n (pc := 41) F dX8_work_41 rfl 0 rfl ?_
                        refine z_iconst (pc := 42) (v := 0) F dX8_work_42 (by decide) ?_
                        refine z_put (pc := 43) (ws' := mw E r (mwk S 0 ((wkp S ro e (wk0 S) 2).1) ((wkp S ro e (wk0 S) 2).2.1) ((wkp S ro e (wk0 S) 2).2.2) (vp_updL (vp_updL (zb S 17) 0 1) 1 0))) F iX8 tyX8 tyX8_ok nmX8 0 rfl rfl 19 (by decide) tw_877 rfl rfl rfl (Nat.le_of_ble_eq_true rfl) dX8_work_43 rfl ?_
                        refine z_iload_n (pc := 46) F dX8_work_46 rfl 3 rfl ?_
                        refine z_istore (pc := 47) (lv' := [(0, .ref (r 0)), (1, .int (nI q)), (2, .int (nI ro)), (3, .int (nI (e 2))), (4, .int 2), (5, .int (nI (e 2)))]) F dX8_work_47 (by decide) [1, 2, 3, 4, 5, 0] rfl ?_
                        have L49_2 : ∀ (N : Nat) (kk : Nat) (t : List Bool) (p : zP), (e 3 - kk) < N → (e 2 ≤ kk) → (kk ≤ e 3) → (tyr S kk (e 3 - kk) t = some (if e 3 = e 2 then [] else [false])) → (rrn S ro kk (e 3 - kk) t p = (wkp S ro e (wk0 S) 3)) → (rsOk p.2.1 t) → (t.length ≤ kk - e 2) → Z X (0) (0) (mw E r (mwk S (nI t.length) (p.1) (p.2.1) (p.2.2) (vp_updL (vp_updL (zb S 17) 0 1) 1 0))) [(0, .ref (r 0)), (1, .int (nI q)), (2, .int (nI ro)), (4, .int 2), (5, .int (nI kk))] 49 [] := by
                          intro N
                          induction N with
                          | zero => intro kk t p hN; exact absurd hN (Nat.not_lt_zero _)
                          | succ N ih49_2 =>
                            intro kk t p hN hk1 hk2 hty hrr hok hlen
                            refine z_iload (pc := 49) F dX8_work_49 4 rfl ?_
                            refine z_aload_n (pc := 51) F dX8_work_51 rfl 0 rfl ?_
                            refine z_get (pc := 52) (v := .ref (r 10)) F iX8 0 rfl rfl 13 (by decide) tw_871 rfl dX8_work_52 ?_
                            refine z_iconst (pc := 55) (v := 4) F dX8_work_55 (by decide) ?_
                            refine z_iload_n (pc := 56) F dX8_work_56 rfl 1 rfl ?_
                            refine z_imul (pc := 57) F dX8_work_57 ?_
                            refine z_iload (pc := 58) F dX8_work_58 3 rfl ?_
                            refine z_iadd (pc := 60) F dX8_work_60 ?_
                            refine z_ialdN (pc := 61) (f := za S 10) F 10 0 rfl rfl (4 * q + 2) (ix4 q 2) (by omega) (by decide) dX8_work_61 ?_
                            rw [show (za S 10 (4 * q + 2)) = nI (e 3) from hE2]
                            refine z_icmp_ge (pc := 62) (tgt := 78) F dX8_work_62 (by decide) (fun c62 => ?_) (fun c62 => ?_)
                            · have hkk : kk = e 3 := Nat.le_antisymm hk2 (gI (by omega) (by omega) c62)
                              subst hkk
                              rw [Nat.sub_self] at hty hrr
                              have ht := Option.some.inj hty
                              have hp : p = (wkp S ro e (wk0 S) 3) := hrr
                              subst hp
                              rcases Classical.em (e 3 = e 2) with hz2 | hz2
                              · rw [if_pos hz2] at ht
                                subst ht
                                have hv2 : wkm S ro e (wk0 S) 2 = 0 := by rw [wkm, if_pos hz2]; rfl
                                refine z_aload_n (pc := 78) F dX8_work_78 rfl 0 rfl ?_
                                refine z_get (pc := 79) (v := .ref (r 17)) F iX8 0 rfl rfl 23 (by decide) tw_881 rfl dX8_work_79 ?_
                                refine z_iload (pc := 82) F dX8_work_82 3 rfl ?_
                                refine z_aload_n (pc := 84) F dX8_work_84 rfl 0 rfl ?_
                                refine z_get (pc := 85) (v := .int (nI ([] : List Bool).length)) F iX8 0 rfl rfl 19 (by decide) tw_877 rfl dX8_work_85 ?_
                                rw [show (nI ([] : List Bool).length) = nI 0 from rfl]
                                refine z_if_le (pc := 88) (tgt := 98) F dX8_work_88 (by decide) (fun _ => ?_) (fun h => absurd h (by decide))
                                refine z_iload (pc := 98) F dX8_work_98 3 rfl ?_
                                refine z_if_eq (pc := 100) (tgt := 109) F dX8_work_100 (by decide) (fun h => absurd h (by decide)) (fun _ => ?_)
                                refine z_iload (pc := 103) F dX8_work_103 3 rfl ?_
                                refine z_iconst (pc := 105) (v := 3) F dX8_work_105 (by decide) ?_
                                refine z_icmp_ne (pc := 106) (tgt := 113) F dX8_work_106 (by decide) (fun _ => ?_) (fun h => absurd h (by decide))
                                refine z_lconst (pc := 113) (v := 0) F dX8_work_113 (by decide) ?_
                                refine z_lastN (pc := 114) (ws' := mw E r (mwk S (nI ([] : List Bool).length) ((wkp S ro e (wk0 S) 3).1) ((wkp S ro e (wk0 S) 3).2.1) ((wkp S ro e (wk0 S) 3).2.2) (vp_updL (vp_updL (vp_updL (zb S 17) 0 1) 1 0) 2 0))) (f := vp_updL (vp_updL (zb S 17) 0 1) 1 0) F 17 1 rfl rfl 2 (by decide) (by omega) (by decide) dX8_work_114 rfl ?_
                                refine z_aload_n (pc := 115) F dX8_work_115 rfl 0 rfl ?_
                                refine z_get (pc := 116) (v := .ref (r 10)) F iX8 0 rfl rfl 13 (by decide) tw_871 rfl dX8_work_116 ?_
                                refine z_iconst (pc := 119) (v := 4) F dX8_work_119 (by decide) ?_
                                refine z_iload_n (pc := 120) F dX8_work_120 rfl 1 rfl ?_
                                refine z_imul (pc := 121) F dX8_work_121 ?_
                                refine z_iload (pc := 122) F dX8_work_122 3 rfl ?_
                                refine z_iadd (pc := 124) F dX8_work_124 ?_
                                refine z_ialdN (pc := 125) (f := za S 10) F 10 0 rfl rfl (4 * q + 2) (ix4 q 2) (by omega) (by decide) dX8_work_125 ?_
                                rw [show (za S 10 (4 * q + 2)) = nI (e 3) from hE2]
                                refine z_istore_n (pc := 126) (lv' := [(0, .ref (r 0)), (1, .int (nI q)), (2, .int (nI ro)), (3, .int (nI (e 3))), (4, .int 2), (5, .int (nI (e 3)))]) F dX8_work_126 rfl (by decide) [1, 2, 3, 0, 4, 5] rfl ?_
                                refine z_iinc (pc := 127) (v := 3) (lv' := [(0, .ref (r 0)), (1, .int (nI q)), (2, .int (nI ro)), (3, .int (nI (e 3))), (4, .int 3), (5, .int (nI (e 3)))]) F (j := 4) dX8_work_127 rfl (by decide) (by decide) [1, 2, 3, 4, 0, 5] rfl ?_
                                refine z_goto (pc := 130) (tgt := 35) F dX8_work_130 (by decide) ?_
                                refine z_iload (pc := 35) F dX8_work_35 4 rfl ?_
                                refine z_iconst (pc := 37) (v := 4) F dX8_work_37 (by decide) ?_
                                refine z_icmp_ge (pc := 38) (tgt := 133) F dX8_work_38 (by decide) (fun h => absurd h (by decide)) (fun _ => ?_)
                                refine z_aload_n (pc := 41) F dX8_work_41 rfl 0 rfl ?_
                                refine z_iconst (pc := 42) (v := 0) F dX8_work_42 (by decide) ?_
                                refine z_put (pc := 43) (ws' := mw E r (mwk S 0 ((wkp S ro e (wk0 S) 3).1) ((wkp S ro e (wk0 S) 3).2.1) ((wkp S ro e (wk0 S) 3).2.2) (vp_updL (vp_updL (vp_updL (zb S 17) 0 1) 1 0) 2 0))) F iX8 tyX8 tyX8_ok nmX8 0 rfl rfl 19 (by decide) tw_877 rfl rfl rfl (Nat.le_of_ble_eq_true rfl) dX8_work_43 rfl ?_
                                refine z_iload_n (pc := 46) F dX8_work_46 rfl 3 rfl ?_
                                refine z_istore (pc := 47) (lv' := [(0, .ref (r 0)), (1, .int (nI q)), (2, .int (nI ro)), (3, .int (nI (e 3))), (4, .int 3), (5, .int (nI (e 3)))]) F dX8_work_47 (by decide) [1, 2, 3, 4, 5, 0] rfl ?_
                                have L49_3 : ∀ (N : Nat) (kk : Nat) (t : List Bool) (p : zP), (e 4 - kk) < N → (e 3 ≤ kk) → (kk ≤ e 4) → (tyr S kk (e 4 - kk) t = some (if e 4 = e 3 then [] else [false])) → (rrn S ro kk (e 4 - kk) t p = (wkp S ro e (wk0 S) 4)) → (rsOk p.2.1 t) → (t.length ≤ kk - e 3) → Z X (0) (0) (mw E r (mwk S (nI t.length) (p.1) (p.2.1) (p.2.2) (vp_updL (vp_updL (vp_updL (zb S 17) 0 1) 1 0) 2 0))) [(0, .ref (r 0)), (1, .int (nI q)), (2, .int (nI ro)), (4, .int 3), (5, .int (nI kk))] 49 [] := by
                                  intro N
                                  induction N with
                                  | zero => intro kk t p hN; exact absurd hN (Nat.not_lt_zero _)
                                  | succ N ih49_3 =>
                                    intro kk t p hN hk1 hk2 hty hrr hok hlen
                                    refine z_iload (pc := 49) F dX8_work_49 4 rfl ?_
                                    refine z_aload_n (pc := 51) F dX8_work_51 rfl 0 rfl ?_
                                    refine z_get (pc := 52) (v := .ref (r 10)) F iX8 0 rfl rfl 13 (by decide) tw_871 rfl dX8_work_52 ?_
                                    refine z_iconst (pc := 55) (v := 4) F dX8_work_55 (by decide) ?_
                                    refine z_iload_n (pc := 56) F dX8_work_56 rfl 1 rfl ?_
                                    refine z_imul (pc := 57) F dX8_work_57 ?_
                                    refine z_iload (pc := 58) F dX8_work_58 3 rfl ?_
                                    refine z_iadd (pc := 60) F dX8_work_60 ?_
                                    refine z_ialdN (pc := 61) (f := za S 10) F 10 0 rfl rfl (4 * q + 3) (ix4 q 3) (by omega) (by decide) dX8_work_61 ?_
                                    rw [show (za S 10 (4 * q + 3)) = nI (e 4) from hE3]
                                    refine z_icmp_ge (pc := 62) (tgt := 78) F dX8_work_62 (by decide) (fun c62 => ?_) (fun c62 => ?_)
                                    · have hkk : kk = e 4 := Nat.le_antisymm hk2 (gI (by omega) (by omega) c62)
                                      subst hkk
                                      rw [Nat.sub_self] at hty hrr
                                      have ht := Option.some.inj hty
                                      have hp : p = (wkp S ro e (wk0 S) 4) := hrr
                                      subst hp
                                      rcases Classical.em (e 4 = e 3) with hz3 | hz3
                                      · rw [if_pos hz3] at ht
                                        subst ht
                                        have hv3 : wkm S ro e (wk0 S) 3 = 1 := by rw [wkm, if_pos hz3]; rfl
                                        refine z_aload_n (pc := 78) F dX8_work_78 rfl 0 rfl ?_
                                        refine z_get (pc := 79) (v := .ref (r 17)) F iX8 0 rfl rfl 23 (by decide) tw_881 rfl dX8_work_79 ?_
                                        refine z_iload (pc := 82) F dX8_work_82 3 rfl ?_
                                        refine z_aload_n (pc := 84) F dX8_work_84 rfl 0 rfl ?_
                                        refine z_get (pc := 85) (v := .int (nI ([] : List Bool).length)) F iX8 0 rfl rfl 19 (by decide) tw_877 rfl dX8_work_85 ?_
                                        rw [show (nI ([] : List Bool).length) = nI 0 from rfl]
                                        refine z_if_le (pc := 88) (tgt := 98) F dX8_work_88 (by decide) (fun _ => ?_) (fun h => absurd h (by decide))
                                        refine z_iload (pc := 98) F dX8_work_98 3 rfl ?_
                                        refine z_if_eq (pc := 100) (tgt := 109) F dX8_work_100 (by decide) (fun h => absurd h (by decide)) (fun _ => ?_)
                                        refine z_iload (pc := 103) F dX8_work_103 3 rfl ?_
                                        refine z_iconst (pc := 105) (v := 3) F dX8_work_105 (by decide) ?_
                                        refine z_icmp_ne (pc := 106) (tgt := 113) F dX8_work_106 (by decide) (fun h => absurd h (by decide)) (fun _ => ?_)
                                        refine z_lconst (pc := 109) (v := 1) F dX8_work_109 (by decide) ?_
                                        refine z_goto (pc := 110) (tgt := 114) F dX8_work_110 (by decide) ?_
                                        refine z_lastN (pc := 114) (ws' := mw E r (mwk S (nI ([] : List Bool).length) ((wkp S ro e (wk0 S) 4).1) ((wkp S ro e (wk0 S) 4).2.1) ((wkp S ro e (wk0 S) 4).2.2) (vp_updL (vp_updL (vp_updL (vp_updL (zb S 17) 0 1) 1 0) 2 0) 3 1))) (f := vp_updL (vp_updL (vp_updL (zb S 17) 0 1) 1 0) 2 0) F 17 1 rfl rfl 3 (by decide) (by omega) (by decide) dX8_work_114 rfl ?_
                                        refine z_aload_n (pc := 115) F dX8_work_115 rfl 0 rfl ?_
                                        refine z_get (pc := 116) (v := .ref (r 10)) F iX8 0 rfl rfl 13 (by decide) tw_871 rfl dX8_work_116 ?_
                                        refine z_iconst (pc := 119) (v := 4) F dX8_work_119 (by decide) ?_
                                        refine z_iload_n (pc := 120) F dX8_work_120 rfl 1 rfl ?_
                                        refine z_imul (pc := 121) F dX8_work_121 ?_
                                        refine z_iload (pc := 122) F dX8_work_122 3 rfl ?_
                                        refine z_iadd (pc := 124) F dX8_work_124 ?_
                                        refine z_ialdN (pc := 125) (f := za S 10) F 10 0 rfl rfl (4 * q + 3) (ix4 q 3) (by omega) (by decide) dX8_work_125 ?_
                                        rw [show (za S 10 (4 * q + 3)) = nI (e 4) from hE3]
                                        refine z_istore_n (pc := 126) (lv' := [(0, .ref (r 0)), (1, .int (nI q)), (2, .int (nI ro)), (3, .int (nI (e 4))), (4, .int 3), (5, .int (nI (e 4)))]) F dX8_work_126 rfl (by decide) [1, 2, 3, 0, 4, 5] rfl ?_
                                        refine z_iinc (pc := 127) (v := 4) (lv' := [(0, .ref (r 0)), (1, .int (nI q)), (2, .int (nI ro)), (3, .int (nI (e 4))), (4, .int 4), (5, .int (nI (e 4)))]) F (j := 4) dX8_work_127 rfl (by decide) (by decide) [1, 2, 3, 4, 0, 5] rfl ?_
                                        refine z_goto (pc := 130) (tgt := 35) F dX8_work_130 (by decide) ?_
                                        refine z_iload (pc := 35) F dX8_work_35 4 rfl ?_
                                        refine z_iconst (pc := 37) (v := 4) F dX8_work_37 (by decide) ?_
                                        refine z_icmp_ge (pc := 38) (tgt := 133) F dX8_work_38 (by decide) (fun _ => ?_) (fun h => absurd h (by decide))
                                        refine z_aload_n (pc := 133) F dX8_work_133 rfl 0 rfl ?_
                                        refine z_get (pc := 134) (v := .int ((wkp S ro e (wk0 S) 4).1)) F iX8 0 rfl rfl 21 (by decide) tw_879 rfl dX8_work_134 ?_
                                        refine z_if_ne (pc := 137) (tgt := 155) F dX8_work_137 (by decide) (fun c137 => ?_) (fun c137 => ?_)
                                        · refine z_iconst (pc := 155) (v := 0) F dX8_work_155 (by decide) ?_
                                          exact z_zret (pc := 156) F hR rfl dX8_work_156 (Nat.le_of_ble_eq_true rfl) (Nat.le_of_ble_eq_true rfl) ⟨by rw [show decide ((wkp S ro e (wk0 S) 4).1 = 0 ∧ ¬ wkm S ro e (wk0 S) 0 = 0) = false from by first | (simp [c137]; done) | (simp [c147]; done)]; rfl, by rw [wkmd, hv0, hv1, hv2, hv3]; try rfl⟩
                                        · refine z_aload_n (pc := 140) F dX8_work_140 rfl 0 rfl ?_
                                          refine z_get (pc := 141) (v := .ref (r 17)) F iX8 0 rfl rfl 23 (by decide) tw_881 rfl dX8_work_141 ?_
                                          refine z_iconst (pc := 144) (v := 0) F dX8_work_144 (by decide) ?_
                                          refine z_laldN (pc := 145) (f := vp_updL (vp_updL (vp_updL (vp_updL (zb S 17) 0 1) 1 0) 2 0) 3 1) F 17 1 rfl rfl 0 (by decide) (by omega) (by decide) dX8_work_145 ?_
                                          rw [show ((vp_updL (vp_updL (vp_updL (vp_updL (zb S 17) 0 1) 1 0) 2 0) 3 1) 0) = wkm S ro e (wk0 S) 0 from (by simp [vp_updL, hv0])]
                                          refine z_lconst (pc := 146) (v := 0) F dX8_work_146 (by decide) ?_
                                          refine z_l_eq (pc := 147) (tgt := 155) F dX8_work_147 dX8_work_148 (by decide) (fun c147 => ?_) (fun c147 => ?_)
                                          · refine z_iconst (pc := 155) (v := 0) F dX8_work_155 (by decide) ?_
                                            exact z_zret (pc := 156) F hR rfl dX8_work_156 (Nat.le_of_ble_eq_true rfl) (Nat.le_of_ble_eq_true rfl) ⟨by rw [show decide ((wkp S ro e (wk0 S) 4).1 = 0 ∧ ¬ wkm S ro e (wk0 S) 0 = 0) = false from by first | (simp [c137]; done) | (simp [c147]; done)]; rfl, by rw [wkmd, hv0, hv1, hv2, hv3]; try rfl⟩
                                          · refine z_iconst (pc := 151) (v := 1) F dX8_work_151 (by decide) ?_
                                            refine z_goto (pc := 152) (tgt := 156) F dX8_work_152 (by decide) ?_
                                            exact z_zret (pc := 156) F hR rfl dX8_work_156 (Nat.le_of_ble_eq_true rfl) (Nat.le_of_ble_eq_true rfl) ⟨by rw [show decide ((wkp S ro e (wk0 S) 4).1 = 0 ∧ ¬ wkm S ro e (wk0 S) 0 = 0) = true from by simp [c137, c147]]; rfl, by rw [wkmd, hv0, hv1, hv2, hv3]; try rfl⟩
                                      · rw [if_neg hz3] at ht
                                        subst ht
                                        have hv3 : wkm S ro e (wk0 S) 3 = (wkp S ro e (wk0 S) 4).2.1 0 := by rw [wkm, if_neg hz3]
                                        refine z_aload_n (pc := 78) F dX8_work_78 rfl 0 rfl ?_
                                        refine z_get (pc := 79) (v := .ref (r 17)) F iX8 0 rfl rfl 23 (by decide) tw_881 rfl dX8_work_79 ?_
                                        refine z_iload (pc := 82) F dX8_work_82 3 rfl ?_
                                        refine z_aload_n (pc := 84) F dX8_work_84 rfl 0 rfl ?_
                                        refine z_get (pc := 85) (v := .int (nI ([false]).length)) F iX8 0 rfl rfl 19 (by decide) tw_877 rfl dX8_work_85 ?_
                                        rw [show (nI ([false]).length) = nI 1 from rfl]
                                        refine z_if_le (pc := 88) (tgt := 98) F dX8_work_88 (by decide) (fun h => absurd h (by decide)) (fun _ => ?_)
                                        refine z_aload_n (pc := 91) F dX8_work_91 rfl 0 rfl ?_
                                        refine z_callVW (pc := 92) (q0 := 0) (ci := 8) (rest := [.int 3, .ref (r 17)]) F (c_X8_pop l E r (zM S (vp_updL (vp_updL (vp_updL (zb S 17) 0 1) 1 0) 2 0)) 0 ((wkp S ro e (wk0 S) 4).1) ((wkp S ro e (wk0 S) 4).2.1) ((wkp S ro e (wk0 S) 4).2.2) (by decide)) 0 ww_Model_104 (by decide +kernel) rfl ⟨Nat.le_of_ble_eq_true rfl, Nat.le_of_ble_eq_true rfl⟩ ⟨Nat.le_of_ble_eq_true rfl, Nat.le_of_ble_eq_true rfl⟩ rfl rfl rfl rfl (Nat.le_of_ble_eq_true rfl) dX8_work_92 (fun v_ w1_ hp => ?_)
                                        obtain ⟨rfl, rfl⟩ := hp
                                        show Z X (0) (0) (mw E r (mwk S (nI 0) ((wkp S ro e (wk0 S) 4).1) ((wkp S ro e (wk0 S) 4).2.1) ((wkp S ro e (wk0 S) 4).2.2) (vp_updL (vp_updL (vp_updL (zb S 17) 0 1) 1 0) 2 0))) [(0, .ref (r 0)), (1, .int (nI q)), (2, .int (nI ro)), (4, .int 3), (5, .int (nI (e 4)))] 95 [.long (((wkp S ro e (wk0 S) 4).2.1) 0), .int 3, .ref (r 17)]
                                        refine z_goto (pc := 95) (tgt := 114) F dX8_work_95 (by decide) ?_
                                        refine z_lastN (pc := 114) (ws' := mw E r (mwk S (nI 0) ((wkp S ro e (wk0 S) 4).1) ((wkp S ro e (wk0 S) 4).2.1) ((wkp S ro e (wk0 S) 4).2.2) (vp_updL (vp_updL (vp_updL (vp_updL (zb S 17) 0 1) 1 0) 2 0) 3 (((wkp S ro e (wk0 S) 4).2.1) 0)))) (f := vp_updL (vp_updL (vp_updL (zb S 17) 0 1) 1 0) 2 0) F 17 1 rfl rfl 3 (by decide) (by omega) (by decide) dX8_work_114 rfl ?_
                                        refine z_aload_n (pc := 115) F dX8_work_115 rfl 0 rfl ?_
                                        refine z_get (pc := 116) (v := .ref (r 10)) F iX8 0 rfl rfl 13 (by decide) tw_871 rfl dX8_work_116 ?_
                                        refine z_iconst (pc := 119) (v := 4) F dX8_work_119 (by decide) ?_
                                        refine z_iload_n (pc := 120) F dX8_work_120 rfl 1 rfl ?_
                                        refine z_imul (pc := 121) F dX8_work_121 ?_
                                        refine z_iload (pc := 122) F dX8_work_122 3 rfl ?_
                                        refine z_iadd (pc := 124) F dX8_work_124 ?_
                                        refine z_ialdN (pc := 125) (f := za S 10) F 10 0 rfl rfl (4 * q + 3) (ix4 q 3) (by omega) (by decide) dX8_work_125 ?_
                                        rw [show (za S 10 (4 * q + 3)) = nI (e 4) from hE3]
                                        refine z_istore_n (pc := 126) (lv' := [(0, .ref (r 0)), (1, .int (nI q)), (2, .int (nI ro)), (3, .int (nI (e 4))), (4, .int 3), (5, .int (nI (e 4)))]) F dX8_work_126 rfl (by decide) [1, 2, 3, 0, 4, 5] rfl ?_
                                        refine z_iinc (pc := 127) (v := 4) (lv' := [(0, .ref (r 0)), (1, .int (nI q)), (2, .int (nI ro)), (3, .int (nI (e 4))), (4, .int 4), (5, .int (nI (e 4)))]) F (j := 4) dX8_work_127 rfl (by decide) (by decide) [1, 2, 3, 4, 0, 5] rfl ?_
                                        refine z_goto (pc := 130) (tgt := 35) F dX8_work_130 (by decide) ?_
                                        refine z_iload (pc := 35) F dX8_work_35 4 rfl ?_
                                        refine z_iconst (pc := 37) (v := 4) F dX8_work_37 (by decide) ?_
                                        refine z_icmp_ge (pc := 38) (tgt := 133) F dX8_work_38 (by decide) (fun _ => ?_) (fun h => absurd h (by decide))
                                        refine z_aload_n (pc := 133) F dX8_work_133 rfl 0 rfl ?_
                                        refine z_get (pc := 134) (v := .int ((wkp S ro e (wk0 S) 4).1)) F iX8 0 rfl rfl 21 (by decide) tw_879 rfl dX8_work_134 ?_
                                        refine z_if_ne (pc := 137) (tgt := 155) F dX8_work_137 (by decide) (fun c137 => ?_) (fun c137 => ?_)
                                        · refine z_iconst (pc := 155) (v := 0) F dX8_work_155 (by decide) ?_
                                          exact z_zret (pc := 156) F hR rfl dX8_work_156 (Nat.le_of_ble_eq_true rfl) (Nat.le_of_ble_eq_true rfl) ⟨by rw [show decide ((wkp S ro e (wk0 S) 4).1 = 0 ∧ ¬ wkm S ro e (wk0 S) 0 = 0) = false from by first | (simp [c137]; done) | (simp [c147]; done)]; rfl, by rw [wkmd, hv0, hv1, hv2, hv3]; try rfl⟩
                                        · refine z_aload_n (pc := 140) F dX8_work_140 rfl 0 rfl ?_
                                          refine z_get (pc := 141) (v := .ref (r 17)) F iX8 0 rfl rfl 23 (by decide) tw_881 rfl dX8_work_141 ?_
                                          refine z_iconst (pc := 144) (v := 0) F dX8_work_144 (by decide) ?_
                                          refine z_laldN (pc := 145) (f := vp_updL (vp_updL (vp_updL (vp_updL (zb S 17) 0 1) 1 0) 2 0) 3 (((wkp S ro e (wk0 S) 4).2.1) 0)) F 17 1 rfl rfl 0 (by decide) (by omega) (by decide) dX8_work_145 ?_
                                          rw [show ((vp_updL (vp_updL (vp_updL (vp_updL (zb S 17) 0 1) 1 0) 2 0) 3 (((wkp S ro e (wk0 S) 4).2.1) 0)) 0) = wkm S ro e (wk0 S) 0 from (by simp [vp_updL, hv0])]
                                          refine z_lconst (pc := 146) (v := 0) F dX8_work_146 (by decide) ?_
                                          refine z_l_eq (pc := 147) (tgt := 155) F dX8_work_147 dX8_work_148 (by decide) (fun c147 => ?_) (fun c147 => ?_)
                                          · refine z_iconst (pc := 155) (v := 0) F dX8_work_155 (by decide) ?_
                                            exact z_zret (pc := 156) F hR rfl dX8_work_156 (Nat.le_of_ble_eq_true rfl) (Nat.le_of_ble_eq_true rfl) ⟨by rw [show decide ((wkp S ro e (wk0 S) 4).1 = 0 ∧ ¬ wkm S ro e (wk0 S) 0 = 0) = false from by first | (simp [c137]; done) | (simp [c147]; done)]; rfl, by rw [wkmd, hv0, hv1, hv2, hv3]; try rfl⟩
                                          · refine z_iconst (pc := 151) (v := 1) F dX8_work_151 (by decide) ?_
                                            refine z_goto (pc := 152) (tgt := 156) F dX8_work_152 (by decide) ?_
                                            exact z_zret (pc := 156) F hR rfl dX8_work_156 (Nat.le_of_ble_eq_true rfl) (Nat.le_of_ble_eq_true rfl) ⟨by rw [show decide ((wkp S ro e (wk0 S) 4).1 = 0 ∧ ¬ wkm S ro e (wk0 S) 0 = 0) = true from by simp [c137, c147]]; rfl, by rw [wkmd, hv0, hv1, hv2, hv3]; try rfl⟩
                                    · have hlt := ngI (by omega) (by omega) c62
                                      obtain ⟨m, hm⟩ : ∃ m, e 4 - kk = m + 1 := ⟨e 4 - kk - 1, by omega⟩
                                      rw [hm] at hty hrr
                                      obtain ⟨t', hw, hty⟩ := tyr_s hty
                                      rw [rrn_s hw] at hrr
                                      obtain ⟨hok', hlen'⟩ := rsOk_step ho hro (num := za S 12 kk) hok hw
                                      have hm' : e 4 - (kk + 1) = m := by omega
                                      refine z_aload_n (pc := 65) F dX8_work_65 rfl 0 rfl ?_
                                      refine z_iload_n (pc := 66) F dX8_work_66 rfl 2 rfl ?_
                                      refine z_iload (pc := 67) F dX8_work_67 4 rfl ?_
                                      refine z_callVW (pc := 69) (q0 := 0) (ci := 8) (rest := []) F (c_X8_act l E r (zM S (vp_updL (vp_updL (vp_updL (zb S 17) 0 1) 1 0) 2 0)) p ro kk (cOp S kk) t t' (by omega) hro (hcd kk (by omega) (by omega)) hw (by omega) hok ho) 2 ww_Model_126 (by decide +kernel) rfl ⟨Nat.le_of_ble_eq_true rfl, Nat.le_of_ble_eq_true rfl⟩ ⟨Nat.le_of_ble_eq_true rfl, Nat.le_of_ble_eq_true rfl⟩ rfl rfl rfl rfl (Nat.le_of_ble_eq_true rfl) dX8_work_69 (fun v_ w1_ hp => ?_)
                                      obtain ⟨rfl, rfl⟩ := hp
                                      show Z X (0) (0) (mw E r (mwk S (nI t'.length) ((rst S ro (cOp S kk) (za S 12 kk) (t'.length - 1) p).1) ((rst S ro (cOp S kk) (za S 12 kk) (t'.length - 1) p).2.1) ((rst S ro (cOp S kk) (za S 12 kk) (t'.length - 1) p).2.2) (vp_updL (vp_updL (vp_updL (zb S 17) 0 1) 1 0) 2 0))) [(0, .ref (r 0)), (1, .int (nI q)), (2, .int (nI ro)), (4, .int 3), (5, .int (nI kk))] 72 []
                                      refine z_iinc (pc := 72) (v := nI (kk + 1)) (lv' := [(0, .ref (r 0)), (1, .int (nI q)), (2, .int (nI ro)), (4, .int 3), (5, .int (nI (kk + 1)))]) F (j := 4) dX8_work_72 rfl (nI_1 _) (by decide) [1, 2, 3, 4, 0] rfl ?_
                                      refine z_goto (pc := 75) (tgt := 49) F dX8_work_75 (by decide) ?_
                                      exact ih49_3 (kk + 1) t' (rst S ro (cOp S kk) (za S 12 kk) (t'.length - 1) p) (by omega) (by omega) (by omega) (by rw [hm']; exact hty) (by rw [hm']; exact hrr) hok' (by omega)
                                refine z_locals (lv' := [(0, .ref (r 0)), (1, .int (nI q)), (2, .int (nI ro)), (4, .int 3), (5, .int (nI (e 3)))]) [0, 1, 2, 4, 5] rfl ?_
                                exact L49_3 _ (e 3) [] (wkp S ro e (wk0 S) 3) (Nat.lt_succ_self _) (Nat.le_refl _) m3 (hty4 3 (by decide)) rfl trivial (Nat.zero_le _)
                              · rw [if_neg hz2] at ht
                                subst ht
                                have hv2 : wkm S ro e (wk0 S) 2 = (wkp S ro e (wk0 S) 3).2.1 0 := by rw [wkm, if_neg hz2]
                                refine z_aload_n (pc := 78) F dX8_work_78 rfl 0 rfl ?_
                                refine z_get (pc := 79) (v := .ref (r 17)) F iX8 0 rfl rfl 23 (by decide) tw_881 rfl dX8_work_79 ?_
                                refine z_iload (pc := 82) F dX8_work_82 3 rfl ?_
                                refine z_aload_n (pc := 84) F dX8_work_84 rfl 0 rfl ?_
                                refine z_get (pc := 85) (v := .int (nI ([false]).length)) F iX8 0 rfl rfl 19 (by decide) tw_877 rfl dX8_work_85 ?_
                                rw [show (nI ([false]).length) = nI 1 from rfl]
                                refine z_if_le (pc := 88) (tgt := 98) F dX8_work_88 (by decide) (fun h => absurd h (by decide)) (fun _ => ?_)
                                refine z_aload_n (pc := 91) F dX8_work_91 rfl 0 rfl ?_
                                refine z_callVW (pc := 92) (q0 := 0) (ci := 8) (rest := [.int 2, .ref (r 17)]) F (c_X8_pop l E r (zM S (vp_updL (vp_updL (zb S 17) 0 1) 1 0)) 0 ((wkp S ro e (wk0 S) 3).1) ((wkp S ro e (wk0 S) 3).2.1) ((wkp S ro e (wk0 S) 3).2.2) (by decide)) 0 ww_Model_104 (by decide +kernel) rfl ⟨Nat.le_of_ble_eq_true rfl, Nat.le_of_ble_eq_true rfl⟩ ⟨Nat.le_of_ble_eq_true rfl, Nat.le_of_ble_eq_true rfl⟩ rfl rfl rfl rfl (Nat.le_of_ble_eq_true rfl) dX8_work_92 (fun v_ w1_ hp => ?_)
                                obtain ⟨rfl, rfl⟩ := hp
                                show Z X (0) (0) (mw E r (mwk S (nI 0) ((wkp S ro e (wk0 S) 3).1) ((wkp S ro e (wk0 S) 3).2.1) ((wkp S ro e (wk0 S) 3).2.2) (vp_updL (vp_updL (zb S 17) 0 1) 1 0))) [(0, .ref (r 0)), (1, .int (nI q)), (2, .int (nI ro)), (4, .int 2), (5, .int (nI (e 3)))] 95 [.long (((wkp S ro e (wk0 S) 3).2.1) 0), .int 2, .ref (r 17)]
                                refine z_goto (pc := 95) (tgt := 114) F dX8_work_95 (by decide) ?_
                                refine z_lastN (pc := 114) (ws' := mw E r (mwk S (nI 0) ((wkp S ro e (wk0 S) 3).1) ((wkp S ro e (wk0 S) 3).2.1) ((wkp S ro e (wk0 S) 3).2.2) (vp_updL (vp_updL (vp_updL (zb S 17) 0 1) 1 0) 2 (((wkp S ro e (wk0 S) 3).2.1) 0)))) (f := vp_updL (vp_updL (zb S 17) 0 1) 1 0) F 17 1 rfl rfl 2 (by decide) (by omega) (by decide) dX8_work_114 rfl ?_
                                refine z_aload_n (pc := 115) F dX8_work_115 rfl 0 rfl ?_
                                refine z_get (pc := 116) (v := .ref (r 10)) F iX8 0 rfl rfl 13 (by decide) tw_871 rfl dX8_work_116 ?_
                                refine z_iconst (pc := 119) (v := 4) F dX8_work_119 (by decide) ?_
                                refine z_iload_n (pc := 120) F dX8_work_120 rfl 1 rfl ?_
                                refine z_imul (pc := 121) F dX8_work_121 ?_
                                refine z_iload (pc := 122) F dX8_work_122 3 rfl ?_
                                refine z_iadd (pc := 124) F dX8_work_124 ?_
                                refine z_ialdN (pc := 125) (f := za S 10) F 10 0 rfl rfl (4 * q + 2) (ix4 q 2) (by omega) (by decide) dX8_work_125 ?_
                                rw [show (za S 10 (4 * q + 2)) = nI (e 3) from hE2]
                                refine z_istore_n (pc := 126) (lv' := [(0, .ref (r 0)), (1, .int (nI q)), (2, .int (nI ro)), (3, .int (nI (e 3))), (4, .int 2), (5, .int (nI (e 3)))]) F dX8_work_126 rfl (by decide) [1, 2, 3, 0, 4, 5] rfl ?_
                                refine z_iinc (pc := 127) (v := 3) (lv' := [(0, .ref (r 0)), (1, .int (nI q)), (2, .int (nI ro)), (3, .int (nI (e 3))), (4, .int 3), (5, .int (nI (e 3)))]) F (j := 4) dX8_work_127 rfl (by decide) (by decide) [1, 2, 3, 4, 0, 5] rfl ?_
                                refine z_goto (pc := 130) (tgt := 35) F dX8_work_130 (by decide) ?_
                                refine z_iload (pc := 35) F dX8_work_35 4 rfl ?_
                                refine z_iconst (pc := 37) (v := 4) F dX8_work_37 (by decide) ?_
                                refine z_icmp_ge (pc := 38) (tgt := 133) F dX8_work_38 (by decide) (fun h => absurd h (by decide)) (fun _ => ?_)
                                refine z_aload_n (pc := 41) F dX8_work_41 rfl 0 rfl ?_
                                refine z_iconst (pc := 42) (v := 0) F dX8_work_42 (by decide) ?_
                                refine z_put (pc := 43) (ws' := mw E r (mwk S 0 ((wkp S ro e (wk0 S) 3).1) ((wkp S ro e (wk0 S) 3).2.1) ((wkp S ro e (wk0 S) 3).2.2) (vp_updL (vp_updL (vp_updL (zb S 17) 0 1) 1 0) 2 (((wkp S ro e (wk0 S) 3).2.1) 0)))) F iX8 tyX8 tyX8_ok nmX8 0 rfl rfl 19 (by decide) tw_877 rfl rfl rfl (Nat.le_of_ble_eq_true rfl) dX8_work_43 rfl ?_
                                refine z_iload_n (pc := 46) F dX8_work_46 rfl 3 rfl ?_
                                refine z_istore (pc := 47) (lv' := [(0, .ref (r 0)), (1, .int (nI q)), (2, .int (nI ro)), (3, .int (nI (e 3))), (4, .int 3), (5, .int (nI (e 3)))]) F dX8_work_47 (by decide) [1, 2, 3, 4, 5, 0] rfl ?_
                                have L49_3 : ∀ (N : Nat) (kk : Nat) (t : List Bool) (p : zP), (e 4 - kk) < N → (e 3 ≤ kk) → (kk ≤ e 4) → (tyr S kk (e 4 - kk) t = some (if e 4 = e 3 then [] else [false])) → (rrn S ro kk (e 4 - kk) t p = (wkp S ro e (wk0 S) 4)) → (rsOk p.2.1 t) → (t.length ≤ kk - e 3) → Z X (0) (0) (mw E r (mwk S (nI t.length) (p.1) (p.2.1) (p.2.2) (vp_updL (vp_updL (vp_updL (zb S 17) 0 1) 1 0) 2 (((wkp S ro e (wk0 S) 3).2.1) 0)))) [(0, .ref (r 0)), (1, .int (nI q)), (2, .int (nI ro)), (4, .int 3), (5, .int (nI kk))] 49 [] := by
                                  intro N
                                  induction N with
                                  | zero => intro kk t p hN; exact absurd hN (Nat.not_lt_zero _)
                                  | succ N ih49_3 =>
                                    intro kk t p hN hk1 hk2 hty hrr hok hlen
                                    refine z_iload (pc := 49) F dX8_work_49 4 rfl ?_
                                    refine z_aload_n (pc := 51) F dX8_work_51 rfl 0 rfl ?_
                                    refine z_get (pc := 52) (v := .ref (r 10)) F iX8 0 rfl rfl 13 (by decide) tw_871 rfl dX8_work_52 ?_
                                    refine z_iconst (pc := 55) (v := 4) F dX8_work_55 (by decide) ?_
                                    refine z_iload_n (pc := 56) F dX8_work_56 rfl 1 rfl ?_
                                    refine z_imul (pc := 57) F dX8_work_57 ?_
                                    refine z_iload (pc := 58) F dX8_work_58 3 rfl ?_
                                    refine z_iadd (pc := 60) F dX8_work_60 ?_
                                    refine z_ialdN (pc := 61) (f := za S 10) F 10 0 rfl rfl (4 * q + 3) (ix4 q 3) (by omega) (by decide) dX8_work_61 ?_
                                    rw [show (za S 10 (4 * q + 3)) = nI (e 4) from hE3]
                                    refine z_icmp_ge (pc := 62) (tgt := 78) F dX8_work_62 (by decide) (fun c62 => ?_) (fun c62 => ?_)
                                    · have hkk : kk = e 4 := Nat.le_antisymm hk2 (gI (by omega) (by omega) c62)
                                      subst hkk
                                      rw [Nat.sub_self] at hty hrr
                                      have ht := Option.some.inj hty
                                      have hp : p = (wkp S ro e (wk0 S) 4) := hrr
                                      subst hp
                                      rcases Classical.em (e 4 = e 3) with hz3 | hz3
                                      · rw [if_pos hz3] at ht
                                        subst ht
                                        have hv3 : wkm S ro e (wk0 S) 3 = 1 := by rw [wkm, if_pos hz3]; rfl
                                        refine z_aload_n (pc := 78) F dX8_work_78 rfl 0 rfl ?_
                                        refine z_get (pc := 79) (v := .ref (r 17)) F iX8 0 rfl rfl 23 (by decide) tw_881 rfl dX8_work_79 ?_
                                        refine z_iload (pc := 82) F dX8_work_82 3 rfl ?_
                                        refine z_aload_n (pc := 84) F dX8_work_84 rfl 0 rfl ?_
                                        refine z_get (pc := 85) (v := .int (nI ([] : List Bool).length)) F iX8 0 rfl rfl 19 (by decide) tw_877 rfl dX8_work_85 ?_
                                        rw [show (nI ([] : List Bool).length) = nI 0 from rfl]
                                        refine z_if_le (pc := 88) (tgt := 98) F dX8_work_88 (by decide) (fun _ => ?_) (fun h => absurd h (by decide))
                                        refine z_iload (pc := 98) F dX8_work_98 3 rfl ?_
                                        refine z_if_eq (pc := 100) (tgt := 109) F dX8_work_100 (by decide) (fun h => absurd h (by decide)) (fun _ => ?_)
                                        refine z_iload (pc := 103) F dX8_work_103 3 rfl ?_
                                        refine z_iconst (pc := 105) (v := 3) F dX8_work_105 (by decide) ?_
                                        refine z_icmp_ne (pc := 106) (tgt := 113) F dX8_work_106 (by decide) (fun h => absurd h (by decide)) (fun _ => ?_)
                                        refine z_lconst (pc := 109) (v := 1) F dX8_work_109 (by decide) ?_
                                        refine z_goto (pc := 110) (tgt := 114) F dX8_work_110 (by decide) ?_
                                        refine z_lastN (pc := 114) (ws' := mw E r (mwk S (nI ([] : List Bool).length) ((wkp S ro e (wk0 S) 4).1) ((wkp S ro e (wk0 S) 4).2.1) ((wkp S ro e (wk0 S) 4).2.2) (vp_updL (vp_updL (vp_updL (vp_updL (zb S 17) 0 1) 1 0) 2 (((wkp S ro e (wk0 S) 3).2.1) 0)) 3 1))) (f := vp_updL (vp_updL (vp_updL (zb S 17) 0 1) 1 0) 2 (((wkp S ro e (wk0 S) 3).2.1) 0)) F 17 1 rfl rfl 3 (by decide) (by omega) (by decide) dX8_work_114 rfl ?_
                                        refine z_aload_n (pc := 115) F dX8_work_115 rfl 0 rfl ?_
                                        refine z_get (pc := 116) (v := .ref (r 10)) F iX8 0 rfl rfl 13 (by decide) tw_871 rfl dX8_work_116 ?_
                                        refine z_iconst (pc := 119) (v := 4) F dX8_work_119 (by decide) ?_
                                        refine z_iload_n (pc := 120) F dX8_work_120 rfl 1 rfl ?_
                                        refine z_imul (pc := 121) F dX8_work_121 ?_
                                        refine z_iload (pc := 122) F dX8_work_122 3 rfl ?_
                                        refine z_iadd (pc := 124) F dX8_work_124 ?_
                                        refine z_ialdN (pc := 125) (f := za S 10) F 10 0 rfl rfl (4 * q + 3) (ix4 q 3) (by omega) (by decide) dX8_work_125 ?_
                                        rw [show (za S 10 (4 * q + 3)) = nI (e 4) from hE3]
                                        refine z_istore_n (pc := 126) (lv' := [(0, .ref (r 0)), (1, .int (nI q)), (2, .int (nI ro)), (3, .int (nI (e 4))), (4, .int 3), (5, .int (nI (e 4)))]) F dX8_work_126 rfl (by decide) [1, 2, 3, 0, 4, 5] rfl ?_
                                        refine z_iinc (pc := 127) (v := 4) (lv' := [(0, .ref (r 0)), (1, .int (nI q)), (2, .int (nI ro)), (3, .int (nI (e 4))), (4, .int 4), (5, .int (nI (e 4)))]) F (j := 4) dX8_work_127 rfl (by decide) (by decide) [1, 2, 3, 4, 0, 5] rfl ?_
                                        refine z_goto (pc := 130) (tgt := 35) F dX8_work_130 (by decide) ?_
                                        refine z_iload (pc := 35) F dX8_work_35 4 rfl ?_
                                        refine z_iconst (pc := 37) (v := 4) F dX8_work_37 (by decide) ?_
                                        refine z_icmp_ge (pc := 38) (tgt := 133) F dX8_work_38 (by decide) (fun _ => ?_) (fun h => absurd h (by decide))
                                        refine z_aload_n (pc := 133) F dX8_work_133 rfl 0 rfl ?_
                                        refine z_get (pc := 134) (v := .int ((wkp S ro e (wk0 S) 4).1)) F iX8 0 rfl rfl 21 (by decide) tw_879 rfl dX8_work_134 ?_
                                        refine z_if_ne (pc := 137) (tgt := 155) F dX8_work_137 (by decide) (fun c137 => ?_) (fun c137 => ?_)
                                        · refine z_iconst (pc := 155) (v := 0) F dX8_work_155 (by decide) ?_
                                          exact z_zret (pc := 156) F hR rfl dX8_work_156 (Nat.le_of_ble_eq_true rfl) (Nat.le_of_ble_eq_true rfl) ⟨by rw [show decide ((wkp S ro e (wk0 S) 4).1 = 0 ∧ ¬ wkm S ro e (wk0 S) 0 = 0) = false from by first | (simp [c137]; done) | (simp [c147]; done)]; rfl, by rw [wkmd, hv0, hv1, hv2, hv3]; try rfl⟩
                                        · refine z_aload_n (pc := 140) F dX8_work_140 rfl 0 rfl ?_
                                          refine z_get (pc := 141) (v := .ref (r 17)) F iX8 0 rfl rfl 23 (by decide) tw_881 rfl dX8_work_141 ?_
                                          refine z_iconst (pc := 144) (v := 0) F dX8_work_144 (by decide) ?_
                                          refine z_laldN (pc := 145) (f := vp_updL (vp_updL (vp_updL (vp_updL (zb S 17) 0 1) 1 0) 2 (((wkp S ro e (wk0 S) 3).2.1) 0)) 3 1) F 17 1 rfl rfl 0 (by decide) (by omega) (by decide) dX8_work_145 ?_
                                          rw [show ((vp_updL (vp_updL (vp_updL (vp_updL (zb S 17) 0 1) 1 0) 2 (((wkp S ro e (wk0 S) 3).2.1) 0)) 3 1) 0) = wkm S ro e (wk0 S) 0 from (by simp [vp_updL, hv0])]
                                          refine z_lconst (pc := 146) (v := 0) F dX8_work_146 (by decide) ?_
                                          refine z_l_eq (pc := 147) (tgt := 155) F dX8_work_147 dX8_work_148 (by decide) (fun c147 => ?_) (fun c147 => ?_)
                                          · refine z_iconst (pc := 155) (v := 0) F dX8_work_155 (by decide) ?_
                                            exact z_zret (pc := 156) F hR rfl dX8_work_156 (Nat.le_of_ble_eq_true rfl) (Nat.le_of_ble_eq_true rfl) ⟨by rw [show decide ((wkp S ro e (wk0 S) 4).1 = 0 ∧ ¬ wkm S ro e (wk0 S) 0 = 0) = false from by first | (simp [c137]; done) | (simp [c147]; done)]; rfl, by rw [wkmd, hv0, hv1, hv2, hv3]; try rfl⟩
                                          · refine z_iconst (pc := 151) (v := 1) F dX8_work_151 (by decide) ?_
                                            refine z_goto (pc := 152) (tgt := 156) F dX8_work_152 (by decide) ?_
                                            exact z_zret (pc := 156) F hR rfl dX8_work_156 (Nat.le_of_ble_eq_true rfl) (Nat.le_of_ble_eq_true rfl) ⟨by rw [show decide ((wkp S ro e (wk0 S) 4).1 = 0 ∧ ¬ wkm S ro e (wk0 S) 0 = 0) = true from by simp [c137, c147]]; rfl, by rw [wkmd, hv0, hv1, hv2, hv3]; try rfl⟩
                                      · rw [if_neg hz3] at ht
                                        subst ht
                                        have hv3 : wkm S ro e (wk0 S) 3 = (wkp S ro e (wk0 S) 4).2.1 0 := by rw [wkm, if_neg hz3]
                                        refine z_aload_n (pc := 78) F dX8_work_78 rfl 0 rfl ?_
                                        refine z_get (pc := 79) (v := .ref (r 17)) F iX8 0 rfl rfl 23 (by decide) tw_881 rfl dX8_work_79 ?_
                                        refine z_iload (pc := 82) F dX8_work_82 3 rfl ?_
                                        refine z_aload_n (pc := 84) F dX8_work_84 rfl 0 rfl ?_
                                        refine z_get (pc := 85) (v := .int (nI ([false]).length)) F iX8 0 rfl rfl 19 (by decide) tw_877 rfl dX8_work_85 ?_
                                        rw [show (nI ([false]).length) = nI 1 from rfl]
                                        refine z_if_le (pc := 88) (tgt := 98) F dX8_work_88 (by decide) (fun h => absurd h (by decide)) (fun _ => ?_)
                                        refine z_aload_n (pc := 91) F dX8_work_91 rfl 0 rfl ?_
                                        refine z_callVW (pc := 92) (q0 := 0) (ci := 8) (rest := [.int 3, .ref (r 17)]) F (c_X8_pop l E r (zM S (vp_updL (vp_updL (vp_updL (zb S 17) 0 1) 1 0) 2 (((wkp S ro e (wk0 S) 3).2.1) 0))) 0 ((wkp S ro e (wk0 S) 4).1) ((wkp S ro e (wk0 S) 4).2.1) ((wkp S ro e (wk0 S) 4).2.2) (by decide)) 0 ww_Model_104 (by decide +kernel) rfl ⟨Nat.le_of_ble_eq_true rfl, Nat.le_of_ble_eq_true rfl⟩ ⟨Nat.le_of_ble_eq_true rfl, Nat.le_of_ble_eq_true rfl⟩ rfl rfl rfl rfl (Nat.le_of_ble_eq_true rfl) dX8_work_92 (fun v_ w1_ hp => ?_)
                                        obtain ⟨rfl, rfl⟩ := hp
                                        show Z X (0) (0) (mw E r (mwk S (nI 0) ((wkp S ro e (wk0 S) 4).1) ((wkp S ro e (wk0 S) 4).2.1) ((wkp S ro e (wk0 S) 4).2.2) (vp_updL (vp_updL (vp_updL (zb S 17) 0 1) 1 0) 2 (((wkp S ro e (wk0 S) 3).2.1) 0)))) [(0, .ref (r 0)), (1, .int (nI q)), (2, .int (nI ro)), (4, .int 3), (5, .int (nI (e 4)))] 95 [.long (((wkp S ro e (wk0 S) 4).2.1) 0), .int 3, .ref (r 17)]
                                        refine z_goto (pc := 95) (tgt := 114) F dX8_work_95 (by decide) ?_
                                        refine z_lastN (pc := 114) (ws' := mw E r (mwk S (nI 0) ((wkp S ro e (wk0 S) 4).1) ((wkp S ro e (wk0 S) 4).2.1) ((wkp S ro e (wk0 S) 4).2.2) (vp_updL (vp_updL (vp_updL (vp_updL (zb S 17) 0 1) 1 0) 2 (((wkp S ro e (wk0 S) 3).2.1) 0)) 3 (((wkp S ro e (wk0 S) 4).2.1) 0)))) (f := vp_updL (vp_updL (vp_updL (zb S 17) 0 1) 1 0) 2 (((wkp S ro e (wk0 S) 3).2.1) 0)) F 17 1 rfl rfl 3 (by decide) (by omega) (by decide) dX8_work_114 rfl ?_
                                        refine z_aload_n (pc := 115) F dX8_work_115 rfl 0 rfl ?_
                                        refine z_get (pc := 116) (v := .ref (r 10)) F iX8 0 rfl rfl 13 (by decide) tw_871 rfl dX8_work_116 ?_
                                        refine z_iconst (pc := 119) (v := 4) F dX8_work_119 (by decide) ?_
                                        refine z_iload_n (pc := 120) F dX8_work_120 rfl 1 rfl ?_
                                        refine z_imul (pc := 121) F dX8_work_121 ?_
                                        refine z_iload (pc := 122) F dX8_work_122 3 rfl ?_
                                        refine z_iadd (pc := 124) F dX8_work_124 ?_
                                        refine z_ialdN (pc := 125) (f := za S 10) F 10 0 rfl rfl (4 * q + 3) (ix4 q 3) (by omega) (by decide) dX8_work_125 ?_
                                        rw [show (za S 10 (4 * q + 3)) = nI (e 4) from hE3]
                                        refine z_istore_n (pc := 126) (lv' := [(0, .ref (r 0)), (1, .int (nI q)), (2, .int (nI ro)), (3, .int (nI (e 4))), (4, .int 3), (5, .int (nI (e 4)))]) F dX8_work_126 rfl (by decide) [1, 2, 3, 0, 4, 5] rfl ?_
                                        refine z_iinc (pc := 127) (v := 4) (lv' := [(0, .ref (r 0)), (1, .int (nI q)), (2, .int (nI ro)), (3, .int (nI (e 4))), (4, .int 4), (5, .int (nI (e 4)))]) F (j := 4) dX8_work_127 rfl (by decide) (by decide) [1, 2, 3, 4, 0, 5] rfl ?_
                                        refine z_goto (pc := 130) (tgt := 35) F dX8_work_130 (by decide) ?_
                                        refine z_iload (pc := 35) F dX8_work_35 4 rfl ?_
                                        refine z_iconst (pc := 37) (v := 4) F dX8_work_37 (by decide) ?_
                                        refine z_icmp_ge (pc := 38) (tgt := 133) F dX8_work_38 (by decide) (fun _ => ?_) (fun h => absurd h (by decide))
                                        refine z_aload_n (pc := 133) F dX8_work_133 rfl 0 rfl ?_
                                        refine z_get (pc := 134) (v := .int ((wkp S ro e (wk0 S) 4).1)) F iX8 0 rfl rfl 21 (by decide) tw_879 rfl dX8_work_134 ?_
                                        refine z_if_ne (pc := 137) (tgt := 155) F dX8_work_137 (by decide) (fun c137 => ?_) (fun c137 => ?_)
                                        · refine z_iconst (pc := 155) (v := 0) F dX8_work_155 (by decide) ?_
                                          exact z_zret (pc := 156) F hR rfl dX8_work_156 (Nat.le_of_ble_eq_true rfl) (Nat.le_of_ble_eq_true rfl) ⟨by rw [show decide ((wkp S ro e (wk0 S) 4).1 = 0 ∧ ¬ wkm S ro e (wk0 S) 0 = 0) = false from by first | (simp [c137]; done) | (simp [c147]; done)]; rfl, by rw [wkmd, hv0, hv1, hv2, hv3]; try rfl⟩
                                        · refine z_aload_n (pc := 140) F dX8_work_140 rfl 0 rfl ?_
                                          refine z_get (pc := 141) (v := .ref (r 17)) F iX8 0 rfl rfl 23 (by decide) tw_881 rfl dX8_work_141 ?_
                                          refine z_iconst (pc := 144) (v := 0) F dX8_work_144 (by decide) ?_
                                          refine z_laldN (pc := 145) (f := vp_updL (vp_updL (vp_updL (vp_updL (zb S 17) 0 1) 1 0) 2 (((wkp S ro e (wk0 S) 3).2.1) 0)) 3 (((wkp S ro e (wk0 S) 4).2.1) 0)) F 17 1 rfl rfl 0 (by decide) (by omega) (by decide) dX8_work_145 ?_
                                          rw [show ((vp_updL (vp_updL (vp_updL (vp_updL (zb S 17) 0 1) 1 0) 2 (((wkp S ro e (wk0 S) 3).2.1) 0)) 3 (((wkp S ro e (wk0 S) 4).2.1) 0)) 0) = wkm S ro e (wk0 S) 0 from (by simp [vp_updL, hv0])]
                                          refine z_lconst (pc := 146) (v := 0) F dX8_work_146 (by decide) ?_
                                          refine z_l_eq (pc := 147) (tgt := 155) F dX8_work_147 dX8_work_148 (by decide) (fun c147 => ?_) (fun c147 => ?_)
                                          · refine z_iconst (pc := 155) (v := 0) F dX8_work_155 (by decide) ?_
                                            exact z_zret (pc := 156) F hR rfl dX8_work_156 (Nat.le_of_ble_eq_true rfl) (Nat.le_of_ble_eq_true rfl) ⟨by rw [show decide ((wkp S ro e (wk0 S) 4).1 = 0 ∧ ¬ wkm S ro e (wk0 S) 0 = 0) = false from by first | (simp [c137]; done) | (simp [c147]; done)]; rfl, by rw [wkmd, hv0, hv1, hv2, hv3]; try rfl⟩
                                          · refine z_iconst (pc := 151) (v := 1) F dX8_work_151 (by decide) ?_
                                            refine z_goto (pc := 152) (tgt := 156) F dX8_work_152 (by decide) ?_
                                            exact z_zret (pc := 156) F hR rfl dX8_work_156 (Nat.le_of_ble_eq_true rfl) (Nat.le_of_ble_eq_true rfl) ⟨by rw [show decide ((wkp S ro e (wk0 S) 4).1 = 0 ∧ ¬ wkm S ro e (wk0 S) 0 = 0) = true from by simp [c137, c147]]; rfl, by rw [wkmd, hv0, hv1, hv2, hv3]; try rfl⟩
                                    · have hlt := ngI (by omega) (by omega) c62
                                      obtain ⟨m, hm⟩ : ∃ m, e 4 - kk = m + 1 := ⟨e 4 - kk - 1, by omega⟩
                                      rw [hm] at hty hrr
                                      obtain ⟨t', hw, hty⟩ := tyr_s hty
                                      rw [rrn_s hw] at hrr
                                      obtain ⟨hok', hlen'⟩ := rsOk_step ho hro (num := za S 12 kk) hok hw
                                      have hm' : e 4 - (kk + 1) = m := by omega
                                      refine z_aload_n (pc := 65) F dX8_work_65 rfl 0 rfl ?_
                                      refine z_iload_n (pc := 66) F dX8_work_66 rfl 2 rfl ?_
                                      refine z_iload (pc := 67) F dX8_work_67 4 rfl ?_
                                      refine z_callVW (pc := 69) (q0 := 0) (ci := 8) (rest := []) F (c_X8_act l E r (zM S (vp_updL (vp_updL (vp_updL (zb S 17) 0 1) 1 0) 2 (((wkp S ro e (wk0 S) 3).2.1) 0))) p ro kk (cOp S kk) t t' (by omega) hro (hcd kk (by omega) (by omega)) hw (by omega) hok ho) 2 ww_Model_126 (by decide +kernel) rfl ⟨Nat.le_of_ble_eq_true rfl, Nat.le_of_ble_eq_true rfl⟩ ⟨Nat.le_of_ble_eq_true rfl, Nat.le_of_ble_eq_true rfl⟩ rfl rfl rfl rfl (Nat.le_of_ble_eq_true rfl) dX8_work_69 (fun v_ w1_ hp => ?_)
                                      obtain ⟨rfl, rfl⟩ := hp
                                      show Z X (0) (0) (mw E r (mwk S (nI t'.length) ((rst S ro (cOp S kk) (za S 12 kk) (t'.length - 1) p).1) ((rst S ro (cOp S kk) (za S 12 kk) (t'.length - 1) p).2.1) ((rst S ro (cOp S kk) (za S 12 kk) (t'.length - 1) p).2.2) (vp_updL (vp_updL (vp_updL (zb S 17) 0 1) 1 0) 2 (((wkp S ro e (wk0 S) 3).2.1) 0)))) [(0, .ref (r 0)), (1, .int (nI q)), (2, .int (nI ro)), (4, .int 3), (5, .int (nI kk))] 72 []
                                      refine z_iinc (pc := 72) (v := nI (kk + 1)) (lv' := [(0, .ref (r 0)), (1, .int (nI q)), (2, .int (nI ro)), (4, .int 3), (5, .int (nI (kk + 1)))]) F (j := 4) dX8_work_72 rfl (nI_1 _) (by decide) [1, 2, 3, 4, 0] rfl ?_
                                      refine z_goto (pc := 75) (tgt := 49) F dX8_work_75 (by decide) ?_
                                      exact ih49_3 (kk + 1) t' (rst S ro (cOp S kk) (za S 12 kk) (t'.length - 1) p) (by omega) (by omega) (by omega) (by rw [hm']; exact hty) (by rw [hm']; exact hrr) hok' (by omega)
                                refine z_locals (lv' := [(0, .ref (r 0)), (1, .int (nI q)), (2, .int (nI ro)), (4, .int 3), (5, .int (nI (e 3)))]) [0, 1, 2, 4, 5] rfl ?_
                                exact L49_3 _ (e 3) [] (wkp S ro e (wk0 S) 3) (Nat.lt_succ_self _) (Nat.le_refl _) m3 (hty4 3 (by decide)) rfl trivial (Nat.zero_le _)
                            · have hlt := ngI (by omega) (by omega) c62
                              obtain ⟨m, hm⟩ : ∃ m, e 3 - kk = m + 1 := ⟨e 3 - kk - 1, by omega⟩
                              rw [hm] at hty hrr
                              obtain ⟨t', hw, hty⟩ := tyr_s hty
                              rw [rrn_s hw] at hrr
                              obtain ⟨hok', hlen'⟩ := rsOk_step ho hro (num := za S 12 kk) hok hw
                              have hm' : e 3 - (kk + 1) = m := by omega
                              refine z_aload_n (pc := 65) F dX8_work_65 rfl 0 rfl ?_
                              refine z_iload_n (pc := 66) F dX8_work_66 rfl 2 rfl ?_
                              refine z_iload (pc := 67) F dX8_work_67 4 rfl ?_
                              refine z_callVW (pc := 69) (q0 := 0) (ci := 8) (rest := []) F (c_X8_act l E r (zM S (vp_updL (vp_updL (zb S 17) 0 1) 1 0)) p ro kk (cOp S kk) t t' (by omega) hro (hcd kk (by omega) (by omega)) hw (by omega) hok ho) 2 ww_Model_126 (by decide +kernel) rfl ⟨Nat.le_of_ble_eq_true rfl, Nat.le_of_ble_eq_true rfl⟩ ⟨Nat.le_of_ble_eq_true rfl, Nat.le_of_ble_eq_true rfl⟩ rfl rfl rfl rfl (Nat.le_of_ble_eq_true rfl) dX8_work_69 (fun v_ w1_ hp => ?_)
                              obtain ⟨rfl, rfl⟩ := hp
                              show Z X (0) (0) (mw E r (mwk S (nI t'.length) ((rst S ro (cOp S kk) (za S 12 kk) (t'.length - 1) p).1) ((rst S ro (cOp S kk) (za S 12 kk) (t'.length - 1) p).2.1) ((rst S ro (cOp S kk) (za S 12 kk) (t'.length - 1) p).2.2) (vp_updL (vp_updL (zb S 17) 0 1) 1 0))) [(0, .ref (r 0)), (1, .int (nI q)), (2, .int (nI ro)), (4, .int 2), (5, .int (nI kk))] 72 []
                              refine z_iinc (pc := 72) (v := nI (kk + 1)) (lv' := [(0, .ref (r 0)), (1, .int (nI q)), (2, .int (nI ro)), (4, .int 2), (5, .int (nI (kk + 1)))]) F (j := 4) dX8_work_72 rfl (nI_1 _) (by decide) [1, 2, 3, 4, 0] rfl ?_
                              refine z_goto (pc := 75) (tgt := 49) F dX8_work_75 (by decide) ?_
                              exact ih49_2 (kk + 1) t' (rst S ro (cOp S kk) (za S 12 kk) (t'.length - 1) p) (by omega) (by omega) (by omega) (by rw [hm']; exact hty) (by rw [hm']; exact hrr) hok' (by omega)
                        refine z_locals (lv' := [(0, .ref (r 0)), (1, .int (nI q)), (2, .int (nI ro)), (4, .int 2), (5, .int (nI (e 2)))]) [0, 1, 2, 4, 5] rfl ?_
                        exact L49_2 _ (e 2) [] (wkp S ro e (wk0 S) 2) (Nat.lt_succ_self _) (Nat.le_refl _) m2 (hty4 2 (by decide)) rfl trivial (Nat.zero_le _)
                      · rw [if_neg hz1] at ht
                        subst ht
                        have hv1 : wkm S ro e (wk0 S) 1 = (wkp S ro e (wk0 S) 2).2.1 0 := by rw [wkm, if_neg hz1]
                        refine z_aload_n (pc := 78) F dX8_work_78 rfl 0 rfl ?_
                        refine z_get (pc := 79) (v := .ref (r 17)) F iX8 0 rfl rfl 23 (by decide) tw_881 rfl dX8_work_79 ?_
                        refine z_iload (pc := 82) F dX8_work_82 3 rfl ?_
                        refine z_aload_n (pc := 84) F dX8_work_84 rfl 0 rfl ?_
                        refine z_get (pc := 85) (v := .int (nI ([false]).length)) F iX8 0 rfl rfl 19 (by decide) tw_877 rfl dX8_work_85 ?_
                        rw [show (nI ([false]).length) = nI 1 from rfl]
                        refine z_if_le (pc := 88) (tgt := 98) F dX8_work_88 (by decide) (fun h => absurd h (by decide)) (fun _ => ?_)
                        refine z_aload_n (pc := 91) F dX8_work_91 rfl 0 rfl ?_
                        refine z_callVW (pc := 92) (q0 := 0) (ci := 8) (rest := [.int 1, .ref (r 17)]) F (c_X8_pop l E r (zM S (vp_updL (zb S 17) 0 1)) 0 ((wkp S ro e (wk0 S) 2).1) ((wkp S ro e (wk0 S) 2).2.1) ((wkp S ro e (wk0 S) 2).2.2) (by decide)) 0 ww_Model_104 (by decide +kernel) rfl ⟨Nat.le_of_ble_eq_true rfl, Nat.le_of_ble_eq_true rfl⟩ ⟨Nat.le_of_ble_eq_true rfl, Nat.le_of_ble_eq_true rfl⟩ rfl rfl rfl rfl (Nat.le_of_ble_eq_true rfl) dX8_work_92 (fun v_ w1_ hp => ?_)
                        obtain ⟨rfl, rfl⟩ := hp
                        show Z X (0) (0) (mw E r (mwk S (nI 0) ((wkp S ro e (wk0 S) 2).1) ((wkp S ro e (wk0 S) 2).2.1) ((wkp S ro e (wk0 S) 2).2.2) (vp_updL (zb S 17) 0 1))) [(0, .ref (r 0)), (1, .int (nI q)), (2, .int (nI ro)), (4, .int 1), (5, .int (nI (e 2)))] 95 [.long (((wkp S ro e (wk0 S) 2).2.1) 0), .int 1, .ref (r 17)]
                        refine z_goto (pc := 95) (tgt := 114) F dX8_work_95 (by decide) ?_
                        refine z_lastN (pc := 114) (ws' := mw E r (mwk S (nI 0) ((wkp S ro e (wk0 S) 2).1) ((wkp S ro e (wk0 S) 2).2.1) ((wkp S ro e (wk0 S) 2).2.2) (vp_updL (vp_updL (zb S 17) 0 1) 1 (((wkp S ro e (wk0 S) 2).2.1) 0)))) (f := vp_updL (zb S 17) 0 1) F 17 1 rfl rfl 1 (by decide) (by omega) (by decide) dX8_work_114 rfl ?_
                        refine z_aload_n (pc := 115) F dX8_work_115 rfl 0 rfl ?_
                        refine z_get (pc := 116) (v := .ref (r 10)) F iX8 0 rfl rfl 13 (by decide) tw_871 rfl dX8_work_116 ?_
                        refine z_iconst (pc := 119) (v := 4) F dX8_work_119 (by decide) ?_
                        refine z_iload_n (pc := 120) F dX8_work_120 rfl 1 rfl ?_
                        refine z_imul (pc := 121) F dX8_work_121 ?_
                        refine z_iload (pc := 122) F dX8_work_122 3 rfl ?_
                        refine z_iadd (pc := 124) F dX8_work_124 ?_
                        refine z_ialdN (pc := 125) (f := za S 10) F 10 0 rfl rfl (4 * q + 1) (ix4 q 1) (by omega) (by decide) dX8_work_125 ?_
                        rw [show (za S 10 (4 * q + 1)) = nI (e 2) from hE1]
                        refine z_istore_n (pc := 126) (lv' := [(0, .ref (r 0)), (1, .int (nI q)), (2, .int (nI ro)), (3, .int (nI (e 2))), (4, .int 1), (5, .int (nI (e 2)))]) F dX8_work_126 rfl (by decide) [1, 2, 3, 0, 4, 5] rfl ?_
                        refine z_iinc (pc := 127) (v := 2) (lv' := [(0, .ref (r 0)), (1, .int (nI q)), (2, .int (nI ro)), (3, .int (nI (e 2))), (4, .int 2), (5, .int (nI (e 2)))]) F (j := 4) dX8_work_127 rfl (by decide) (by decide) [1, 2, 3, 4, 0, 5] rfl ?_
                        refine z_goto (pc := 130) (tgt := 35) F dX8_work_130 (by decide) ?_
                        refine z_iload (pc := 35) F dX8_work_35 4 rfl ?_
                        refine z_iconst (pc := 37) (v := 4) F dX8_work_37 (by decide) ?_
                        refine z_icmp_ge (pc := 38) (tgt := 133) F dX8_work_38 (by decide) (fun h => absurd h (by decide)) (fun _ => ?_)
                        refine z_aload_n (pc := 41) F dX8_work_41 rfl 0 rfl ?_
                        refine z_iconst (pc := 42) (v := 0) F dX8_work_42 (by decide) ?_
                        refine z_put (pc := 43) (ws' := mw E r (mwk S 0 ((wkp S ro e (wk0 S) 2).1) ((wkp S ro e (wk0 S) 2).2.1) ((wkp S ro e (wk0 S) 2).2.2) (vp_updL (vp_updL (zb S 17) 0 1) 1 (((wkp S ro e (wk0 S) 2).2.1) 0)))) F iX8 tyX8 tyX8_ok nmX8 0 rfl rfl 19 (by decide) tw_877 rfl rfl rfl (Nat.le_of_ble_eq_true rfl) dX8_work_43 rfl ?_
                        refine z_iload_n (pc := 46) F dX8_work_46 rfl 3 rfl ?_
                        refine z_istore (pc := 47) (lv' := [(0, .ref (r 0)), (1, .int (nI q)), (2, .int (nI ro)), (3, .int (nI (e 2))), (4, .int 2), (5, .int (nI (e 2)))]) F dX8_work_47 (by decide) [1, 2, 3, 4, 5, 0] rfl ?_
                        have L49_2 : ∀ (N : Nat) (kk : Nat) (t : List Bool) (p : zP), (e 3 - kk) < N → (e 2 ≤ kk) → (kk ≤ e 3) → (tyr S kk (e 3 - kk) t = some (if e 3 = e 2 then [] else [false])) → (rrn S ro kk (e 3 - kk) t p = (wkp S ro e (wk0 S) 3)) → (rsOk p.2.1 t) → (t.length ≤ kk - e 2) → Z X (0) (0) (mw E r (mwk S (nI t.length) (p.1) (p.2.1) (p.2.2) (vp_updL (vp_updL (zb S 17) 0 1) 1 (((wkp S ro e (wk0 S) 2).2.1) 0)))) [(0, .ref (r 0)), (1, .int (nI q)), (2, .int (nI ro)), (4, .int 2), (5, .int (nI kk))] 49 [] := by
                          intro N
                          induction N with
                          | zero => intro kk t p hN; exact absurd hN (Nat.not_lt_zero _)
                          | succ N ih49_2 =>
                            intro kk t p hN hk1 hk2 hty hrr hok hlen
                            refine z_iload (pc := 49) F dX8_work_49 4 rfl ?_
                            refine z_aload_n (pc := 51) F dX8_work_51 rfl 0 rfl ?_
                            refine z_get (pc := 52) (v := .ref (r 10)) F iX8 0 rfl rfl 13 (by decide) tw_871 rfl dX8_work_52 ?_
                            refine z_iconst (pc := 55) (v := 4) F dX8_work_55 (by decide) ?_
                            refine z_iload_n (pc := 56) F dX8_work_56 rfl 1 rfl ?_
                            refine z_imul (pc := 57) F dX8_work_57 ?_
                            refine z_iload (pc := 58) F dX8_work_58 3 rfl ?_
                            refine z_iadd (pc := 60) F dX8_work_60 ?_
                            refine z_ialdN (pc := 61) (f := za S 10) F 10 0 rfl rfl (4 * q + 2) (ix4 q 2) (by omega) (by decide) dX8_work_61 ?_
                            rw [show (za S 10 (4 * q + 2)) = nI (e 3) from hE2]
                            refine z_icmp_ge (pc := 62) (tgt := 78) F dX8_work_62 (by decide) (fun c62 => ?_) (fun c62 => ?_)
                            · have hkk : kk = e 3 := Nat.le_antisymm hk2 (gI (by omega) (by omega) c62)
                              subst hkk
                              rw [Nat.sub_self] at hty hrr
                              have ht := Option.some.inj hty
                              have hp : p = (wkp S ro e (wk0 S) 3) := hrr
                              subst hp
                              rcases Classical.em (e 3 = e 2) with hz2 | hz2
                              · rw [if_pos hz2] at ht
                                subst ht
                                have hv2 : wkm S ro e (wk0 S) 2 = 0 := by rw [wkm, if_pos hz2]; rfl
                                refine z_aload_n (pc := 78) F dX8_work_78 rfl 0 rfl ?_
                                refine z_get (pc := 79) (v := .ref (r 17)) F iX8 0 rfl rfl 23 (by decide) tw_881 rfl dX8_work_79 ?_
                                refine z_iload (pc := 82) F dX8_work_82 3 rfl ?_
                                refine z_aload_n (pc := 84) F dX8_work_84 rfl 0 rfl ?_
                                refine z_get (pc := 85) (v := .int (nI ([] : List Bool).length)) F iX8 0 rfl rfl 19 (by decide) tw_877 rfl dX8_work_85 ?_
                                rw [show (nI ([] : List Bool).length) = nI 0 from rfl]
                                refine z_if_le (pc := 88) (tgt := 98) F dX8_work_88 (by decide) (fun _ => ?_) (fun h => absurd h (by decide))
                                refine z_iload (pc := 98) F dX8_work_98 3 rfl ?_
                                refine z_if_eq (pc := 100) (tgt := 109) F dX8_work_100 (by decide) (fun h => absurd h (by decide)) (fun _ => ?_)
                                refine z_iload (pc := 103) F dX8_work_103 3 rfl ?_
                                refine z_iconst (pc := 105) (v := 3) F dX8_work_105 (by decide) ?_
                                refine z_icmp_ne (pc := 106) (tgt := 113) F dX8_work_106 (by decide) (fun _ => ?_) (fun h => absurd h (by decide))
                                refine z_lconst (pc := 113) (v := 0) F dX8_work_113 (by decide) ?_
                                refine z_lastN (pc := 114) (ws' := mw E r (mwk S (nI ([] : List Bool).length) ((wkp S ro e (wk0 S) 3).1) ((wkp S ro e (wk0 S) 3).2.1) ((wkp S ro e (wk0 S) 3).2.2) (vp_updL (vp_updL (vp_updL (zb S 17) 0 1) 1 (((wkp S ro e (wk0 S) 2).2.1) 0)) 2 0))) (f := vp_updL (vp_updL (zb S 17) 0 1) 1 (((wkp S ro e (wk0 S) 2).2.1) 0)) F 17 1 rfl rfl 2 (by decide) (by omega) (by decide) dX8_work_114 rfl ?_
                                refine z_aload_n (pc := 115) F dX8_work_115 rfl 0 rfl ?_
                                refine z_get (pc := 116) (v := .ref (r 10)) F iX8 0 rfl rfl 13 (by decide) tw_871 rfl dX8_work_116 ?_
                                refine z_iconst (pc := 119) (v := 4) F dX8_work_119 (by decide) ?_
                                refine z_iload_n (pc := 120) F dX8_work_120 rfl 1 rfl ?_
                                refine z_imul (pc := 121) F dX8_work_121 ?_
                                refine z_iload (pc := 122) F dX8_work_122 3 rfl ?_
                                refine z_iadd (pc := 124) F dX8_work_124 ?_
                                refine z_ialdN (pc := 125) (f := za S 10) F 10 0 rfl rfl (4 * q + 2) (ix4 q 2) (by omega) (by decide) dX8_work_125 ?_
                                rw [show (za S 10 (4 * q + 2)) = nI (e 3) from hE2]
                                refine z_istore_n (pc := 126) (lv' := [(0, .ref (r 0)), (1, .int (nI q)), (2, .int (nI ro)), (3, .int (nI (e 3))), (4, .int 2), (5, .int (nI (e 3)))]) F dX8_work_126 rfl (by decide) [1, 2, 3, 0, 4, 5] rfl ?_
                                refine z_iinc (pc := 127) (v := 3) (lv' := [(0, .ref (r 0)), (1, .int (nI q)), (2, .int (nI ro)), (3, .int (nI (e 3))), (4, .int 3), (5, .int (nI (e 3)))]) F (j := 4) dX8_work_127 rfl (by decide) (by decide) [1, 2, 3, 4, 0, 5] rfl ?_
                                refine z_goto (pc := 130) (tgt := 35) F dX8_work_130 (by decide) ?_
                                refine z_iload (pc := 35) F dX8_work_35 4 rfl ?_
                                refine z_iconst (pc := 37) (v := 4) F dX8_work_37 (by decide) ?_
                                refine z_icmp_ge (pc := 38) (tgt := 133) F dX8_work_38 (by decide) (fun h => absurd h (by decide)) (fun _ => ?_)
                                refine z_aload_n (pc := 41) F dX8_work_41 rfl 0 rfl ?_
                                refine z_iconst (pc := 42) (v := 0) F dX8_work_42 (by decide) ?_
                                refine z_put (pc := 43) (ws' := mw E r (mwk S 0 ((wkp S ro e (wk0 S) 3).1) ((wkp S ro e (wk0 S) 3).2.1) ((wkp S ro e (wk0 S) 3).2.2) (vp_updL (vp_updL (vp_updL (zb S 17) 0 1) 1 (((wkp S ro e (wk0 S) 2).2.1) 0)) 2 0))) F iX8 tyX8 tyX8_ok nmX8 0 rfl rfl 19 (by decide) tw_877 rfl rfl rfl (Nat.le_of_ble_eq_true rfl) dX8_work_43 rfl ?_
                                refine z_iload_n (pc := 46) F dX8_work_46 rfl 3 rfl ?_
                                refine z_istore (pc := 47) (lv' := [(0, .ref (r 0)), (1, .int (nI q)), (2, .int (nI ro)), (3, .int (nI (e 3))), (4, .int 3), (5, .int (nI (e 3)))]) F dX8_work_47 (by decide) [1, 2, 3, 4, 5, 0] rfl ?_
                                have L49_3 : ∀ (N : Nat) (kk : Nat) (t : List Bool) (p : zP), (e 4 - kk) < N → (e 3 ≤ kk) → (kk ≤ e 4) → (tyr S kk (e 4 - kk) t = some (if e 4 = e 3 then [] else [false])) → (rrn S ro kk (e 4 - kk) t p = (wkp S ro e (wk0 S) 4)) → (rsOk p.2.1 t) → (t.length ≤ kk - e 3) → Z X (0) (0) (mw E r (mwk S (nI t.length) (p.1) (p.2.1) (p.2.2) (vp_updL (vp_updL (vp_updL (zb S 17) 0 1) 1 (((wkp S ro e (wk0 S) 2).2.1) 0)) 2 0))) [(0, .ref (r 0)), (1, .int (nI q)), (2, .int (nI ro)), (4, .int 3), (5, .int (nI kk))] 49 [] := by
                                  intro N
                                  induction N with
                                  | zero => intro kk t p hN; exact absurd hN (Nat.not_lt_zero _)
                                  | succ N ih49_3 =>
                                    intro kk t p hN hk1 hk2 hty hrr hok hlen
                                    refine z_iload (pc := 49) F dX8_work_49 4 rfl ?_
                                    refine z_aload_n (pc := 51) F dX8_work_51 rfl 0 rfl ?_
                                    refine z_get (pc := 52) (v := .ref (r 10)) F iX8 0 rfl rfl 13 (by decide) tw_871 rfl dX8_work_52 ?_
                                    refine z_iconst (pc := 55) (v := 4) F dX8_work_55 (by decide) ?_
                                    refine z_iload_n (pc := 56) F dX8_work_56 rfl 1 rfl ?_
                                    refine z_imul (pc := 57) F dX8_work_57 ?_
                                    refine z_iload (pc := 58) F dX8_work_58 3 rfl ?_
                                    refine z_iadd (pc := 60) F dX8_work_60 ?_
                                    refine z_ialdN (pc := 61) (f := za S 10) F 10 0 rfl rfl (4 * q + 3) (ix4 q 3) (by omega) (by decide) dX8_work_61 ?_
                                    rw [show (za S 10 (4 * q + 3)) = nI (e 4) from hE3]
                                    refine z_icmp_ge (pc := 62) (tgt := 78) F dX8_work_62 (by decide) (fun c62 => ?_) (fun c62 => ?_)
                                    · have hkk : kk = e 4 := Nat.le_antisymm hk2 (gI (by omega) (by omega) c62)
                                      subst hkk
                                      rw [Nat.sub_self] at hty hrr
                                      have ht := Option.some.inj hty
                                      have hp : p = (wkp S ro e (wk0 S) 4) := hrr
                                      subst hp
                                      rcases Classical.em (e 4 = e 3) with hz3 | hz3
                                      · rw [if_pos hz3] at ht
                                        subst ht
                                        have hv3 : wkm S ro e (wk0 S) 3 = 1 := by rw [wkm, if_pos hz3]; rfl
                                        refine z_aload_n (pc := 78) F dX8_work_78 rfl 0 rfl ?_
                                        refine z_get (pc := 79) (v := .ref (r 17)) F iX8 0 rfl rfl 23 (by decide) tw_881 rfl dX8_work_79 ?_
                                        refine z_iload (pc := 82) F dX8_work_82 3 rfl ?_
                                        refine z_aload_n (pc := 84) F dX8_work_84 rfl 0 rfl ?_
                                        refine z_get (pc := 85) (v := .int (nI ([] : List Bool).length)) F iX8 0 rfl rfl 19 (by decide) tw_877 rfl dX8_work_85 ?_
                                        rw [show (nI ([] : List Bool).length) = nI 0 from rfl]
                                        refine z_if_le (pc := 88) (tgt := 98) F dX8_work_88 (by decide) (fun _ => ?_) (fun h => absurd h (by decide))
                                        refine z_iload (pc := 98) F dX8_work_98 3 rfl ?_
                                        refine z_if_eq (pc := 100) (tgt := 109) F dX8_work_100 (by decide) (fun h => absurd h (by decide)) (fun _ => ?_)
                                        refine z_iload (pc := 103) F dX8_work_103 3 rfl ?_
                                        refine z_iconst (pc := 105) (v := 3) F dX8_work_105 (by decide) ?_
                                        refine z_icmp_ne (pc := 106) (tgt := 113) F dX8_work_106 (by decide) (fun h => absurd h (by decide)) (fun _ => ?_)
                                        refine z_lconst (pc := 109) (v := 1) F dX8_work_109 (by decide) ?_
                                        refine z_goto (pc := 110) (tgt := 114) F dX8_work_110 (by decide) ?_
                                        refine z_lastN (pc := 114) (ws' := mw E r (mwk S (nI ([] : List Bool).length) ((wkp S ro e (wk0 S) 4).1) ((wkp S ro e (wk0 S) 4).2.1) ((wkp S ro e (wk0 S) 4).2.2) (vp_updL (vp_updL (vp_updL (vp_updL (zb S 17) 0 1) 1 (((wkp S ro e (wk0 S) 2).2.1) 0)) 2 0) 3 1))) (f := vp_updL (vp_updL (vp_updL (zb S 17) 0 1) 1 (((wkp S ro e (wk0 S) 2).2.1) 0)) 2 0) F 17 1 rfl rfl 3 (by decide) (by omega) (by decide) dX8_work_114 rfl ?_
                                        refine z_aload_n (pc := 115) F dX8_work_115 rfl 0 rfl ?_
                                        refine z_get (pc := 116) (v := .ref (r 10)) F iX8 0 rfl rfl 13 (by decide) tw_871 rfl dX8_work_116 ?_
                                        refine z_iconst (pc := 119) (v := 4) F dX8_work_119 (by decide) ?_
                                        refine z_iload_n (pc := 120) F dX8_work_120 rfl 1 rfl ?_
                                        refine z_imul (pc := 121) F dX8_work_121 ?_
                                        refine z_iload (pc := 122) F dX8_work_122 3 rfl ?_
                                        refine z_iadd (pc := 124) F dX8_work_124 ?_
                                        refine z_ialdN (pc := 125) (f := za S 10) F 10 0 rfl rfl (4 * q + 3) (ix4 q 3) (by omega) (by decide) dX8_work_125 ?_
                                        rw [show (za S 10 (4 * q + 3)) = nI (e 4) from hE3]
                                        refine z_istore_n (pc := 126) (lv' := [(0, .ref (r 0)), (1, .int (nI q)), (2, .int (nI ro)), (3, .int (nI (e 4))), (4, .int 3), (5, .int (nI (e 4)))]) F dX8_work_126 rfl (by decide) [1, 2, 3, 0, 4, 5] rfl ?_
                                        refine z_iinc (pc := 127) (v := 4) (lv' := [(0, .ref (r 0)), (1, .int (nI q)), (2, .int (nI ro)), (3, .int (nI (e 4))), (4, .int 4), (5, .int (nI (e 4)))]) F (j := 4) dX8_work_127 rfl (by decide) (by decide) [1, 2, 3, 4, 0, 5] rfl ?_
                                        refine z_goto (pc := 130) (tgt := 35) F dX8_work_130 (by decide) ?_
                                        refine z_iload (pc := 35) F dX8_work_35 4 rfl ?_
                                        refine z_iconst (pc := 37) (v := 4) F dX8_work_37 (by decide) ?_
                                        refine z_icmp_ge (pc := 38) (tgt := 133) F dX8_work_38 (by decide) (fun _ => ?_) (fun h => absurd h (by decide))
                                        refine z_aload_n (pc := 133) F dX8_work_133 rfl 0 rfl ?_
                                        refine z_get (pc := 134) (v := .int ((wkp S ro e (wk0 S) 4).1)) F iX8 0 rfl rfl 21 (by decide) tw_879 rfl dX8_work_134 ?_
                                        refine z_if_ne (pc := 137) (tgt := 155) F dX8_work_137 (by decide) (fun c137 => ?_) (fun c137 => ?_)
                                        · refine z_iconst (pc := 155) (v := 0) F dX8_work_155 (by decide) ?_
                                          exact z_zret (pc := 156) F hR rfl dX8_work_156 (Nat.le_of_ble_eq_true rfl) (Nat.le_of_ble_eq_true rfl) ⟨by rw [show decide ((wkp S ro e (wk0 S) 4).1 = 0 ∧ ¬ wkm S ro e (wk0 S) 0 = 0) = false from by first | (simp [c137]; done) | (simp [c147]; done)]; rfl, by rw [wkmd, hv0, hv1, hv2, hv3]; try rfl⟩
                                        · refine z_aload_n (pc := 140) F dX8_work_140 rfl 0 rfl ?_
                                          refine z_get (pc := 141) (v := .ref (r 17)) F iX8 0 rfl rfl 23 (by decide) tw_881 rfl dX8_work_141 ?_
                                          refine z_iconst (pc := 144) (v := 0) F dX8_work_144 (by decide) ?_
                                          refine z_laldN (pc := 145) (f := vp_updL (vp_updL (vp_updL (vp_updL (zb S 17) 0 1) 1 (((wkp S ro e (wk0 S) 2).2.1) 0)) 2 0) 3 1) F 17 1 rfl rfl 0 (by decide) (by omega) (by decide) dX8_work_145 ?_
                                          rw [show ((vp_updL (vp_updL (vp_updL (vp_updL (zb S 17) 0 1) 1 (((wkp S ro e (wk0 S) 2).2.1) 0)) 2 0) 3 1) 0) = wkm S ro e (wk0 S) 0 from (by simp [vp_updL, hv0])]
                                          refine z_lconst (pc := 146) (v := 0) F dX8_work_146 (by decide) ?_
                                          refine z_l_eq (pc := 147) (tgt := 155) F dX8_work_147 dX8_work_148 (by decide) (fun c147 => ?_) (fun c147 => ?_)
                                          · refine z_iconst (pc := 155) (v := 0) F dX8_work_155 (by decide) ?_
                                            exact z_zret (pc := 156) F hR rfl dX8_work_156 (Nat.le_of_ble_eq_true rfl) (Nat.le_of_ble_eq_true rfl) ⟨by rw [show decide ((wkp S ro e (wk0 S) 4).1 = 0 ∧ ¬ wkm S ro e (wk0 S) 0 = 0) = false from by first | (simp [c137]; done) | (simp [c147]; done)]; rfl, by rw [wkmd, hv0, hv1, hv2, hv3]; try rfl⟩
                                          · refine z_iconst (pc := 151) (v := 1) F dX8_work_151 (by decide) ?_
                                            refine z_goto (pc := 152) (tgt := 156) F dX8_work_152 (by decide) ?_
                                            exact z_zret (pc := 156) F hR rfl dX8_work_156 (Nat.le_of_ble_eq_true rfl) (Nat.le_of_ble_eq_true rfl) ⟨by rw [show decide ((wkp S ro e (wk0 S) 4).1 = 0 ∧ ¬ wkm S ro e (wk0 S) 0 = 0) = true from by simp [c137, c147]]; rfl, by rw [wkmd, hv0, hv1, hv2, hv3]; try rfl⟩
                                      · rw [if_neg hz3] at ht
                                        subst ht
                                        have hv3 : wkm S ro e (wk0 S) 3 = (wkp S ro e (wk0 S) 4).2.1 0 := by rw [wkm, if_neg hz3]
                                        refine z_aload_n (pc := 78) F dX8_work_78 rfl 0 rfl ?_
                                        refine z_get (pc := 79) (v := .ref (r 17)) F iX8 0 rfl rfl 23 (by decide) tw_881 rfl dX8_work_79 ?_
                                        refine z_iload (pc := 82) F dX8_work_82 3 rfl ?_
                                        refine z_aload_n (pc := 84) F dX8_work_84 rfl 0 rfl ?_
                                        refine z_get (pc := 85) (v := .int (nI ([false]).length)) F iX8 0 rfl rfl 19 (by decide) tw_877 rfl dX8_work_85 ?_
                                        rw [show (nI ([false]).length) = nI 1 from rfl]
                                        refine z_if_le (pc := 88) (tgt := 98) F dX8_work_88 (by decide) (fun h => absurd h (by decide)) (fun _ => ?_)
                                        refine z_aload_n (pc := 91) F dX8_work_91 rfl 0 rfl ?_
                                        refine z_callVW (pc := 92) (q0 := 0) (ci := 8) (rest := [.int 3, .ref (r 17)]) F (c_X8_pop l E r (zM S (vp_updL (vp_updL (vp_updL (zb S 17) 0 1) 1 (((wkp S ro e (wk0 S) 2).2.1) 0)) 2 0)) 0 ((wkp S ro e (wk0 S) 4).1) ((wkp S ro e (wk0 S) 4).2.1) ((wkp S ro e (wk0 S) 4).2.2) (by decide)) 0 ww_Model_104 (by decide +kernel) rfl ⟨Nat.le_of_ble_eq_true rfl, Nat.le_of_ble_eq_true rfl⟩ ⟨Nat.le_of_ble_eq_true rfl, Nat.le_of_ble_eq_true rfl⟩ rfl rfl rfl rfl (Nat.le_of_ble_eq_true rfl) dX8_work_92 (fun v_ w1_ hp => ?_)
                                        obtain ⟨rfl, rfl⟩ := hp
                                        show Z X (0) (0) (mw E r (mwk S (nI 0) ((wkp S ro e (wk0 S) 4).1) ((wkp S ro e (wk0 S) 4).2.1) ((wkp S ro e (wk0 S) 4).2.2) (vp_updL (vp_updL (vp_updL (zb S 17) 0 1) 1 (((wkp S ro e (wk0 S) 2).2.1) 0)) 2 0))) [(0, .ref (r 0)), (1, .int (nI q)), (2, .int (nI ro)), (4, .int 3), (5, .int (nI (e 4)))] 95 [.long (((wkp S ro e (wk0 S) 4).2.1) 0), .int 3, .ref (r 17)]
                                        refine z_goto (pc := 95) (tgt := 114) F dX8_work_95 (by decide) ?_
                                        refine z_lastN (pc := 114) (ws' := mw E r (mwk S (nI 0) ((wkp S ro e (wk0 S) 4).1) ((wkp S ro e (wk0 S) 4).2.1) ((wkp S ro e (wk0 S) 4).2.2) (vp_updL (vp_updL (vp_updL (vp_updL (zb S 17) 0 1) 1 (((wkp S ro e (wk0 S) 2).2.1) 0)) 2 0) 3 (((wkp S ro e (wk0 S) 4).2.1) 0)))) (f := vp_updL (vp_updL (vp_updL (zb S 17) 0 1) 1 (((wkp S ro e (wk0 S) 2).2.1) 0)) 2 0) F 17 1 rfl rfl 3 (by decide) (by omega) (by decide) dX8_work_114 rfl ?_
                                        refine z_aload_n (pc := 115) F dX8_work_115 rfl 0 rfl ?_
                                        refine z_get (pc := 116) (v := .ref (r 10)) F iX8 0 rfl rfl 13 (by decide) tw_871 rfl dX8_work_116 ?_
                                        refine z_iconst (pc := 119) (v := 4) F dX8_work_119 (by decide) ?_
                                        refine z_iload_n (pc := 120) F dX8_work_120 rfl 1 rfl ?_
                                        refine z_imul (pc := 121) F dX8_work_121 ?_
                                        refine z_iload (pc := 122) F dX8_work_122 3 rfl ?_
                                        refine z_iadd (pc := 124) F dX8_work_124 ?_
                                        refine z_ialdN (pc := 125) (f := za S 10) F 10 0 rfl rfl (4 * q + 3) (ix4 q 3) (by omega) (by decide) dX8_work_125 ?_
                                        rw [show (za S 10 (4 * q + 3)) = nI (e 4) from hE3]
                                        refine z_istore_n (pc := 126) (lv' := [(0, .ref (r 0)), (1, .int (nI q)), (2, .int (nI ro)), (3, .int (nI (e 4))), (4, .int 3), (5, .int (nI (e 4)))]) F dX8_work_126 rfl (by decide) [1, 2, 3, 0, 4, 5] rfl ?_
                                        refine z_iinc (pc := 127) (v := 4) (lv' := [(0, .ref (r 0)), (1, .int (nI q)), (2, .int (nI ro)), (3, .int (nI (e 4))), (4, .int 4), (5, .int (nI (e 4)))]) F (j := 4) dX8_work_127 rfl (by decide) (by decide) [1, 2, 3, 4, 0, 5] rfl ?_
                                        refine z_goto (pc := 130) (tgt := 35) F dX8_work_130 (by decide) ?_
                                        refine z_iload (pc := 35) F dX8_work_35 4 rfl ?_
                                        refine z_iconst (pc := 37) (v := 4) F dX8_work_37 (by decide) ?_
                                        refine z_icmp_ge (pc := 38) (tgt := 133) F dX8_work_38 (by decide) (fun _ => ?_) (fun h => absurd h (by decide))
                                        refine z_aload_n (pc := 133) F dX8_work_133 rfl 0 rfl ?_
                                        refine z_get (pc := 134) (v := .int ((wkp S ro e (wk0 S) 4).1)) F iX8 0 rfl rfl 21 (by decide) tw_879 rfl dX8_work_134 ?_
                                        refine z_if_ne (pc := 137) (tgt := 155) F dX8_work_137 (by decide) (fun c137 => ?_) (fun c137 => ?_)
                                        · refine z_iconst (pc := 155) (v := 0) F dX8_work_155 (by decide) ?_
                                          exact z_zret (pc := 156) F hR rfl dX8_work_156 (Nat.le_of_ble_eq_true rfl) (Nat.le_of_ble_eq_true rfl) ⟨by rw [show decide ((wkp S ro e (wk0 S) 4).1 = 0 ∧ ¬ wkm S ro e (wk0 S) 0 = 0) = false from by first | (simp [c137]; done) | (simp [c147]; done)]; rfl, by rw [wkmd, hv0, hv1, hv2, hv3]; try rfl⟩
                                        · refine z_aload_n (pc := 140) F dX8_work_140 rfl 0 rfl ?_
                                          refine z_get (pc := 141) (v := .ref (r 17)) F iX8 0 rfl rfl 23 (by decide) tw_881 rfl dX8_work_141 ?_
                                          refine z_iconst (pc := 144) (v := 0) F dX8_work_144 (by decide) ?_
                                          refine z_laldN (pc := 145) (f := vp_updL (vp_updL (vp_updL (vp_updL (zb S 17) 0 1) 1 (((wkp S ro e (wk0 S) 2).2.1) 0)) 2 0) 3 (((wkp S ro e (wk0 S) 4).2.1) 0)) F 17 1 rfl rfl 0 (by decide) (by omega) (by decide) dX8_work_145 ?_
                                          rw [show ((vp_updL (vp_updL (vp_updL (vp_updL (zb S 17) 0 1) 1 (((wkp S ro e (wk0 S) 2).2.1) 0)) 2 0) 3 (((wkp S ro e (wk0 S) 4).2.1) 0)) 0) = wkm S ro e (wk0 S) 0 from (by simp [vp_updL, hv0])]
                                          refine z_lconst (pc := 146) (v := 0) F dX8_work_146 (by decide) ?_
                                          refine z_l_eq (pc := 147) (tgt := 155) F dX8_work_147 dX8_work_148 (by decide) (fun c147 => ?_) (fun c147 => ?_)
                                          · refine z_iconst (pc := 155) (v := 0) F dX8_work_155 (by decide) ?_
                                            exact z_zret (pc := 156) F hR rfl dX8_work_156 (Nat.le_of_ble_eq_true rfl) (Nat.le_of_ble_eq_true rfl) ⟨by rw [show decide ((wkp S ro e (wk0 S) 4).1 = 0 ∧ ¬ wkm S ro e (wk0 S) 0 = 0) = false from by first | (simp [c137]; done) | (simp [c147]; done)]; rfl, by rw [wkmd, hv0, hv1, hv2, hv3]; try rfl⟩
                                          · refine z_iconst (pc := 151) (v := 1) F dX8_work_151 (by decide) ?_
                                            refine z_goto (pc := 152) (tgt := 156) F dX8_work_152 (by decide) ?_
                                            exact z_zret (pc := 156) F hR rfl dX8_work_156 (Nat.le_of_ble_eq_true rfl) (Nat.le_of_ble_eq_true rfl) ⟨by rw [show decide ((wkp S ro e (wk0 S) 4).1 = 0 ∧ ¬ wkm S ro e (wk0 S) 0 = 0) = true from by simp [c137, c147]]; rfl, by rw [wkmd, hv0, hv1, hv2, hv3]; try rfl⟩
                                    · have hlt := ngI (by omega) (by omega) c62
                                      obtain ⟨m, hm⟩ : ∃ m, e 4 - kk = m + 1 := ⟨e 4 - kk - 1, by omega⟩
                                      rw [hm] at hty hrr
                                      obtain ⟨t', hw, hty⟩ := tyr_s hty
                                      rw [rrn_s hw] at hrr
                                      obtain ⟨hok', hlen'⟩ := rsOk_step ho hro (num := za S 12 kk) hok hw
                                      have hm' : e 4 - (kk + 1) = m := by omega
                                      refine z_aload_n (pc := 65) F dX8_work_65 rfl 0 rfl ?_
                                      refine z_iload_n (pc := 66) F dX8_work_66 rfl 2 rfl ?_
                                      refine z_iload (pc := 67) F dX8_work_67 4 rfl ?_
                                      refine z_callVW (pc := 69) (q0 := 0) (ci := 8) (rest := []) F (c_X8_act l E r (zM S (vp_updL (vp_updL (vp_updL (zb S 17) 0 1) 1 (((wkp S ro e (wk0 S) 2).2.1) 0)) 2 0)) p ro kk (cOp S kk) t t' (by omega) hro (hcd kk (by omega) (by omega)) hw (by omega) hok ho) 2 ww_Model_126 (by decide +kernel) rfl ⟨Nat.le_of_ble_eq_true rfl, Nat.le_of_ble_eq_true rfl⟩ ⟨Nat.le_of_ble_eq_true rfl, Nat.le_of_ble_eq_true rfl⟩ rfl rfl rfl rfl (Nat.le_of_ble_eq_true rfl) dX8_work_69 (fun v_ w1_ hp => ?_)
                                      obtain ⟨rfl, rfl⟩ := hp
                                      show Z X (0) (0) (mw E r (mwk S (nI t'.length) ((rst S ro (cOp S kk) (za S 12 kk) (t'.length - 1) p).1) ((rst S ro (cOp S kk) (za S 12 kk) (t'.length - 1) p).2.1) ((rst S ro (cOp S kk) (za S 12 kk) (t'.length - 1) p).2.2) (vp_updL (vp_updL (vp_updL (zb S 17) 0 1) 1 (((wkp S ro e (wk0 S) 2).2.1) 0)) 2 0))) [(0, .ref (r 0)), (1, .int (nI q)), (2, .int (nI ro)), (4, .int 3), (5, .int (nI kk))] 72 []
                                      refine z_iinc (pc := 72) (v := nI (kk + 1)) (lv' := [(0, .ref (r 0)), (1, .int (nI q)), (2, .int (nI ro)), (4, .int 3), (5, .int (nI (kk + 1)))]) F (j := 4) dX8_work_72 rfl (nI_1 _) (by decide) [1, 2, 3, 4, 0] rfl ?_
                                      refine z_goto (pc := 75) (tgt := 49) F dX8_work_75 (by decide) ?_
                                      exact ih49_3 (kk + 1) t' (rst S ro (cOp S kk) (za S 12 kk) (t'.length - 1) p) (by omega) (by omega) (by omega) (by rw [hm']; exact hty) (by rw [hm']; exact hrr) hok' (by omega)
                                refine z_locals (lv' := [(0, .ref (r 0)), (1, .int (nI q)), (2, .int (nI ro)), (4, .int 3), (5, .int (nI (e 3)))]) [0, 1, 2, 4, 5] rfl ?_
                                exact L49_3 _ (e 3) [] (wkp S ro e (wk0 S) 3) (Nat.lt_succ_self _) (Nat.le_refl _) m3 (hty4 3 (by decide)) rfl trivial (Nat.zero_le _)
                              · rw [if_neg hz2] at ht
                                subst ht
                                have hv2 : wkm S ro e (wk0 S) 2 = (wkp S ro e (wk0 S) 3).2.1 0 := by rw [wkm, if_neg hz2]
                                refine z_aload_n (pc := 78) F dX8_work_78 rfl 0 rfl ?_
                                refine z_get (pc := 79) (v := .ref (r 17)) F iX8 0 rfl rfl 23 (by decide) tw_881 rfl dX8_work_79 ?_
                                refine z_iload (pc := 82) F dX8_work_82 3 rfl ?_
                                refine z_aload_n (pc := 84) F dX8_work_84 rfl 0 rfl ?_
                                refine z_get (pc := 85) (v := .int (nI ([false]).length)) F iX8 0 rfl rfl 19 (by decide) tw_877 rfl dX8_work_85 ?_
                                rw [show (nI ([false]).length) = nI 1 from rfl]
                                refine z_if_le (pc := 88) (tgt := 98) F dX8_work_88 (by decide) (fun h => absurd h (by decide)) (fun _ => ?_)
                                refine z_aload_n (pc := 91) F dX8_work_91 rfl 0 rfl ?_
                                refine z_callVW (pc := 92) (q0 := 0) (ci := 8) (rest := [.int 2, .ref (r 17)]) F (c_X8_pop l E r (zM S (vp_updL (vp_updL (zb S 17) 0 1) 1 (((wkp S ro e (wk0 S) 2).2.1) 0))) 0 ((wkp S ro e (wk0 S) 3).1) ((wkp S ro e (wk0 S) 3).2.1) ((wkp S ro e (wk0 S) 3).2.2) (by decide)) 0 ww_Model_104 (by decide +kernel) rfl ⟨Nat.le_of_ble_eq_true rfl, Nat.le_of_ble_eq_true rfl⟩ ⟨Nat.le_of_ble_eq_true rfl, Nat.le_of_ble_eq_true rfl⟩ rfl rfl rfl rfl (Nat.le_of_ble_eq_true rfl) dX8_work_92 (fun v_ w1_ hp => ?_)
                                obtain ⟨rfl, rfl⟩ := hp
                                show Z X (0) (0) (mw E r (mwk S (nI 0) ((wkp S ro e (wk0 S) 3).1) ((wkp S ro e (wk0 S) 3).2.1) ((wkp S ro e (wk0 S) 3).2.2) (vp_updL (vp_updL (zb S 17) 0 1) 1 (((wkp S ro e (wk0 S) 2).2.1) 0)))) [(0, .ref (r 0)), (1, .int (nI q)), (2, .int (nI ro)), (4, .int 2), (5, .int (nI (e 3)))] 95 [.long (((wkp S ro e (wk0 S) 3).2.1) 0), .int 2, .ref (r 17)]
                                refine z_goto (pc := 95) (tgt := 114) F dX8_work_95 (by decide) ?_
                                refine z_lastN (pc := 114) (ws' := mw E r (mwk S (nI 0) ((wkp S ro e (wk0 S) 3).1) ((wkp S ro e (wk0 S) 3).2.1) ((wkp S ro e (wk0 S) 3).2.2) (vp_updL (vp_updL (vp_updL (zb S 17) 0 1) 1 (((wkp S ro e (wk0 S) 2).2.1) 0)) 2 (((wkp S ro e (wk0 S) 3).2.1) 0)))) (f := vp_updL (vp_updL (zb S 17) 0 1) 1 (((wkp S ro e (wk0 S) 2).2.1) 0)) F 17 1 rfl rfl 2 (by decide) (by omega) (by decide) dX8_work_114 rfl ?_
                                refine z_aload_n (pc := 115) F dX8_work_115 rfl 0 rfl ?_
                                refine z_get (pc := 116) (v := .ref (r 10)) F iX8 0 rfl rfl 13 (by decide) tw_871 rfl dX8_work_116 ?_
                                refine z_iconst (pc := 119) (v := 4) F dX8_work_119 (by decide) ?_
                                refine z_iload_n (pc := 120) F dX8_work_120 rfl 1 rfl ?_
                                refine z_imul (pc := 121) F dX8_work_121 ?_
                                refine z_iload (pc := 122) F dX8_work_122 3 rfl ?_
                                refine z_iadd (pc := 124) F dX8_work_124 ?_
                                refine z_ialdN (pc := 125) (f := za S 10) F 10 0 rfl rfl (4 * q + 2) (ix4 q 2) (by omega) (by decide) dX8_work_125 ?_
                                rw [show (za S 10 (4 * q + 2)) = nI (e 3) from hE2]
                                refine z_istore_n (pc := 126) (lv' := [(0, .ref (r 0)), (1, .int (nI q)), (2, .int (nI ro)), (3, .int (nI (e 3))), (4, .int 2), (5, .int (nI (e 3)))]) F dX8_work_126 rfl (by decide) [1, 2, 3, 0, 4, 5] rfl ?_
                                refine z_iinc (pc := 127) (v := 3) (lv' := [(0, .ref (r 0)), (1, .int (nI q)), (2, .int (nI ro)), (3, .int (nI (e 3))), (4, .int 3), (5, .int (nI (e 3)))]) F (j := 4) dX8_work_127 rfl (by decide) (by decide) [1, 2, 3, 4, 0, 5] rfl ?_
                                refine z_goto (pc := 130) (tgt := 35) F dX8_work_130 (by decide) ?_
                                refine z_iload (pc := 35) F dX8_work_35 4 rfl ?_
                                refine z_iconst (pc := 37) (v := 4) F dX8_work_37 (by decide) ?_
                                refine z_icmp_ge (pc := 38) (tgt := 133) F dX8_work_38 (by decide) (fun h => absurd h (by decide)) (fun _ => ?_)
                                refine z_aload_n (pc := 41) F dX8_work_41 rfl 0 rfl ?_
                                refine z_iconst (pc := 42) (v := 0) F dX8_work_42 (by decide) ?_
                                refine z_put (pc := 43) (ws' := mw E r (mwk S 0 ((wkp S ro e (wk0 S) 3).1) ((wkp S ro e (wk0 S) 3).2.1) ((wkp S ro e (wk0 S) 3).2.2) (vp_updL (vp_updL (vp_updL (zb S 17) 0 1) 1 (((wkp S ro e (wk0 S) 2).2.1) 0)) 2 (((wkp S ro e (wk0 S) 3).2.1) 0)))) F iX8 tyX8 tyX8_ok nmX8 0 rfl rfl 19 (by decide) tw_877 rfl rfl rfl (Nat.le_of_ble_eq_true rfl) dX8_work_43 rfl ?_
                                refine z_iload_n (pc := 46) F dX8_work_46 rfl 3 rfl ?_
                                refine z_istore (pc := 47) (lv' := [(0, .ref (r 0)), (1, .int (nI q)), (2, .int (nI ro)), (3, .int (nI (e 3))), (4, .int 3), (5, .int (nI (e 3)))]) F dX8_work_47 (by decide) [1, 2, 3, 4, 5, 0] rfl ?_
                                have L49_3 : ∀ (N : Nat) (kk : Nat) (t : List Bool) (p : zP), (e 4 - kk) < N → (e 3 ≤ kk) → (kk ≤ e 4) → (tyr S kk (e 4 - kk) t = some (if e 4 = e 3 then [] else [false])) → (rrn S ro kk (e 4 - kk) t p = (wkp S ro e (wk0 S) 4)) → (rsOk p.2.1 t) → (t.length ≤ kk - e 3) → Z X (0) (0) (mw E r (mwk S (nI t.length) (p.1) (p.2.1) (p.2.2) (vp_updL (vp_updL (vp_updL (zb S 17) 0 1) 1 (((wkp S ro e (wk0 S) 2).2.1) 0)) 2 (((wkp S ro e (wk0 S) 3).2.1) 0)))) [(0, .ref (r 0)), (1, .int (nI q)), (2, .int (nI ro)), (4, .int 3), (5, .int (nI kk))] 49 [] := by
                                  intro N
                                  induction N with
                                  | zero => intro kk t p hN; exact absurd hN (Nat.not_lt_zero _)
                                  | succ N ih49_3 =>
                                    intro kk t p hN hk1 hk2 hty hrr hok hlen
                                    refine z_iload (pc := 49) F dX8_work_49 4 rfl ?_
                                    refine z_aload_n (pc := 51) F dX8_work_51 rfl 0 rfl ?_
                                    refine z_get (pc := 52) (v := .ref (r 10)) F iX8 0 rfl rfl 13 (by decide) tw_871 rfl dX8_work_52 ?_
                                    refine z_iconst (pc := 55) (v := 4) F dX8_work_55 (by decide) ?_
                                    refine z_iload_n (pc := 56) F dX8_work_56 rfl 1 rfl ?_
                                    refine z_imul (pc := 57) F dX8_work_57 ?_
                                    refine z_iload (pc := 58) F dX8_work_58 3 rfl ?_
                                    refine z_iadd (pc := 60) F dX8_work_60 ?_
                                    refine z_ialdN (pc := 61) (f := za S 10) F 10 0 rfl rfl (4 * q + 3) (ix4 q 3) (by omega) (by decide) dX8_work_61 ?_
                                    rw [show (za S 10 (4 * q + 3)) = nI (e 4) from hE3]
                                    refine z_icmp_ge (pc := 62) (tgt := 78) F dX8_work_62 (by decide) (fun c62 => ?_) (fun c62 => ?_)
                                    · have hkk : kk = e 4 := Nat.le_antisymm hk2 (gI (by omega) (by omega) c62)
                                      subst hkk
                                      rw [Nat.sub_self] at hty hrr
                                      have ht := Option.some.inj hty
                                      have hp : p = (wkp S ro e (wk0 S) 4) := hrr
                                      subst hp
                                      rcases Classical.em (e 4 = e 3) with hz3 | hz3
                                      · rw [if_pos hz3] at ht
                                        subst ht
                                        have hv3 : wkm S ro e (wk0 S) 3 = 1 := by rw [wkm, if_pos hz3]; rfl
                                        refine z_aload_n (pc := 78) F dX8_work_78 rfl 0 rfl ?_
                                        refine z_get (pc := 79) (v := .ref (r 17)) F iX8 0 rfl rfl 23 (by decide) tw_881 rfl dX8_work_79 ?_
                                        refine z_iload (pc := 82) F dX8_work_82 3 rfl ?_
                                        refine z_aload_n (pc := 84) F dX8_work_84 rfl 0 rfl ?_
                                        refine z_get (pc := 85) (v := .int (nI ([] : List Bool).length)) F iX8 0 rfl rfl 19 (by decide) tw_877 rfl dX8_work_85 ?_
                                        rw [show (nI ([] : List Bool).length) = nI 0 from rfl]
                                        refine z_if_le (pc := 88) (tgt := 98) F dX8_work_88 (by decide) (fun _ => ?_) (fun h => absurd h (by decide))
                                        refine z_iload (pc := 98) F dX8_work_98 3 rfl ?_
                                        refine z_if_eq (pc := 100) (tgt := 109) F dX8_work_100 (by decide) (fun h => absurd h (by decide)) (fun _ => ?_)
                                        refine z_iload (pc := 103) F dX8_work_103 3 rfl ?_
                                        refine z_iconst (pc := 105) (v := 3) F dX8_work_105 (by decide) ?_
                                        refine z_icmp_ne (pc := 106) (tgt := 113) F dX8_work_106 (by decide) (fun h => absurd h (by decide)) (fun _ => ?_)
                                        refine z_lconst (pc := 109) (v := 1) F dX8_work_109 (by decide) ?_
                                        refine z_goto (pc := 110) (tgt := 114) F dX8_work_110 (by decide) ?_
                                        refine z_lastN (pc := 114) (ws' := mw E r (mwk S (nI ([] : List Bool).length) ((wkp S ro e (wk0 S) 4).1) ((wkp S ro e (wk0 S) 4).2.1) ((wkp S ro e (wk0 S) 4).2.2) (vp_updL (vp_updL (vp_updL (vp_updL (zb S 17) 0 1) 1 (((wkp S ro e (wk0 S) 2).2.1) 0)) 2 (((wkp S ro e (wk0 S) 3).2.1) 0)) 3 1))) (f := vp_updL (vp_updL (vp_updL (zb S 17) 0 1) 1 (((wkp S ro e (wk0 S) 2).2.1) 0)) 2 (((wkp S ro e (wk0 S) 3).2.1) 0)) F 17 1 rfl rfl 3 (by decide) (by omega) (by decide) dX8_work_114 rfl ?_
                                        refine z_aload_n (pc := 115) F dX8_work_115 rfl 0 rfl ?_
                                        refine z_get (pc := 116) (v := .ref (r 10)) F iX8 0 rfl rfl 13 (by decide) tw_871 rfl dX8_work_116 ?_
                                        refine z_iconst (pc := 119) (v := 4) F dX8_work_119 (by decide) ?_
                                        refine z_iload_n (pc := 120) F dX8_work_120 rfl 1 rfl ?_
                                        refine z_imul (pc := 121) F dX8_work_121 ?_
                                        refine z_iload (pc := 122) F dX8_work_122 3 rfl ?_
                                        refine z_iadd (pc := 124) F dX8_work_124 ?_
                                        refine z_ialdN (pc := 125) (f := za S 10) F 10 0 rfl rfl (4 * q + 3) (ix4 q 3) (by omega) (by decide) dX8_work_125 ?_
                                        rw [show (za S 10 (4 * q + 3)) = nI (e 4) from hE3]
                                        refine z_istore_n (pc := 126) (lv' := [(0, .ref (r 0)), (1, .int (nI q)), (2, .int (nI ro)), (3, .int (nI (e 4))), (4, .int 3), (5, .int (nI (e 4)))]) F dX8_work_126 rfl (by decide) [1, 2, 3, 0, 4, 5] rfl ?_
                                        refine z_iinc (pc := 127) (v := 4) (lv' := [(0, .ref (r 0)), (1, .int (nI q)), (2, .int (nI ro)), (3, .int (nI (e 4))), (4, .int 4), (5, .int (nI (e 4)))]) F (j := 4) dX8_work_127 rfl (by decide) (by decide) [1, 2, 3, 4, 0, 5] rfl ?_
                                        refine z_goto (pc := 130) (tgt := 35) F dX8_work_130 (by decide) ?_
                                        refine z_iload (pc := 35) F dX8_work_35 4 rfl ?_
                                        refine z_iconst (pc := 37) (v := 4) F dX8_work_37 (by decide) ?_
                                        refine z_icmp_ge (pc := 38) (tgt := 133) F dX8_work_38 (by decide) (fun _ => ?_) (fun h => absurd h (by decide))
                                        refine z_aload_n (pc := 133) F dX8_work_133 rfl 0 rfl ?_
                                        refine z_get (pc := 134) (v := .int ((wkp S ro e (wk0 S) 4).1)) F iX8 0 rfl rfl 21 (by decide) tw_879 rfl dX8_work_134 ?_
                                        refine z_if_ne (pc := 137) (tgt := 155) F dX8_work_137 (by decide) (fun c137 => ?_) (fun c137 => ?_)
                                        · refine z_iconst (pc := 155) (v := 0) F dX8_work_155 (by decide) ?_
                                          exact z_zret (pc := 156) F hR rfl dX8_work_156 (Nat.le_of_ble_eq_true rfl) (Nat.le_of_ble_eq_true rfl) ⟨by rw [show decide ((wkp S ro e (wk0 S) 4).1 = 0 ∧ ¬ wkm S ro e (wk0 S) 0 = 0) = false from by first | (simp [c137]; done) | (simp [c147]; done)]; rfl, by rw [wkmd, hv0, hv1, hv2, hv3]; try rfl⟩
                                        · refine z_aload_n (pc := 140) F dX8_work_140 rfl 0 rfl ?_
                                          refine z_get (pc := 141) (v := .ref (r 17)) F iX8 0 rfl rfl 23 (by decide) tw_881 rfl dX8_work_141 ?_
                                          refine z_iconst (pc := 144) (v := 0) F dX8_work_144 (by decide) ?_
                                          refine z_laldN (pc := 145) (f := vp_updL (vp_updL (vp_updL (vp_updL (zb S 17) 0 1) 1 (((wkp S ro e (wk0 S) 2).2.1) 0)) 2 (((wkp S ro e (wk0 S) 3).2.1) 0)) 3 1) F 17 1 rfl rfl 0 (by decide) (by omega) (by decide) dX8_work_145 ?_
                                          rw [show ((vp_updL (vp_updL (vp_updL (vp_updL (zb S 17) 0 1) 1 (((wkp S ro e (wk0 S) 2).2.1) 0)) 2 (((wkp S ro e (wk0 S) 3).2.1) 0)) 3 1) 0) = wkm S ro e (wk0 S) 0 from (by simp [vp_updL, hv0])]
                                          refine z_lconst (pc := 146) (v := 0) F dX8_work_146 (by decide) ?_
                                          refine z_l_eq (pc := 147) (tgt := 155) F dX8_work_147 dX8_work_148 (by decide) (fun c147 => ?_) (fun c147 => ?_)
                                          · refine z_iconst (pc := 155) (v := 0) F dX8_work_155 (by decide) ?_
                                            exact z_zret (pc := 156) F hR rfl dX8_work_156 (Nat.le_of_ble_eq_true rfl) (Nat.le_of_ble_eq_true rfl) ⟨by rw [show decide ((wkp S ro e (wk0 S) 4).1 = 0 ∧ ¬ wkm S ro e (wk0 S) 0 = 0) = false from by first | (simp [c137]; done) | (simp [c147]; done)]; rfl, by rw [wkmd, hv0, hv1, hv2, hv3]; try rfl⟩
                                          · refine z_iconst (pc := 151) (v := 1) F dX8_work_151 (by decide) ?_
                                            refine z_goto (pc := 152) (tgt := 156) F dX8_work_152 (by decide) ?_
                                            exact z_zret (pc := 156) F hR rfl dX8_work_156 (Nat.le_of_ble_eq_true rfl) (Nat.le_of_ble_eq_true rfl) ⟨by rw [show decide ((wkp S ro e (wk0 S) 4).1 = 0 ∧ ¬ wkm S ro e (wk0 S) 0 = 0) = true from by simp [c137, c147]]; rfl, by rw [wkmd, hv0, hv1, hv2, hv3]; try rfl⟩
                                      · rw [if_neg hz3] at ht
                                        subst ht
                                        have hv3 : wkm S ro e (wk0 S) 3 = (wkp S ro e (wk0 S) 4).2.1 0 := by rw [wkm, if_neg hz3]
                                        refine z_aload_n (pc := 78) F dX8_work_78 rfl 0 rfl ?_
                                        refine z_get (pc := 79) (v := .ref (r 17)) F iX8 0 rfl rfl 23 (by decide) tw_881 rfl dX8_work_79 ?_
                                        refine z_iload (pc := 82) F dX8_work_82 3 rfl ?_
                                        refine z_aload_n (pc := 84) F dX8_work_84 rfl 0 rfl ?_
                                        refine z_get (pc := 85) (v := .int (nI ([false]).length)) F iX8 0 rfl rfl 19 (by decide) tw_877 rfl dX8_work_85 ?_
                                        rw [show (nI ([false]).length) = nI 1 from rfl]
                                        refine z_if_le (pc := 88) (tgt := 98) F dX8_work_88 (by decide) (fun h => absurd h (by decide)) (fun _ => ?_)
                                        refine z_aload_n (pc := 91) F dX8_work_91 rfl 0 rfl ?_
                                        refine z_callVW (pc := 92) (q0 := 0) (ci := 8) (rest := [.int 3, .ref (r 17)]) F (c_X8_pop l E r (zM S (vp_updL (vp_updL (vp_updL (zb S 17) 0 1) 1 (((wkp S ro e (wk0 S) 2).2.1) 0)) 2 (((wkp S ro e (wk0 S) 3).2.1) 0))) 0 ((wkp S ro e (wk0 S) 4).1) ((wkp S ro e (wk0 S) 4).2.1) ((wkp S ro e (wk0 S) 4).2.2) (by decide)) 0 ww_Model_104 (by decide +kernel) rfl ⟨Nat.le_of_ble_eq_true rfl, Nat.le_of_ble_eq_true rfl⟩ ⟨Nat.le_of_ble_eq_true rfl, Nat.le_of_ble_eq_true rfl⟩ rfl rfl rfl rfl (Nat.le_of_ble_eq_true rfl) dX8_work_92 (fun v_ w1_ hp => ?_)
                                        obtain ⟨rfl, rfl⟩ := hp
                                        show Z X (0) (0) (mw E r (mwk S (nI 0) ((wkp S ro e (wk0 S) 4).1) ((wkp S ro e (wk0 S) 4).2.1) ((wkp S ro e (wk0 S) 4).2.2) (vp_updL (vp_updL (vp_updL (zb S 17) 0 1) 1 (((wkp S ro e (wk0 S) 2).2.1) 0)) 2 (((wkp S ro e (wk0 S) 3).2.1) 0)))) [(0, .ref (r 0)), (1, .int (nI q)), (2, .int (nI ro)), (4, .int 3), (5, .int (nI (e 4)))] 95 [.long (((wkp S ro e (wk0 S) 4).2.1) 0), .int 3, .ref (r 17)]
                                        refine z_goto (pc := 95) (tgt := 114) F dX8_work_95 (by decide) ?_
                                        refine z_lastN (pc := 114) (ws' := mw E r (mwk S (nI 0) ((wkp S ro e (wk0 S) 4).1) ((wkp S ro e (wk0 S) 4).2.1) ((wkp S ro e (wk0 S) 4).2.2) (vp_updL (vp_updL (vp_updL (vp_updL (zb S 17) 0 1) 1 (((wkp S ro e (wk0 S) 2).2.1) 0)) 2 (((wkp S ro e (wk0 S) 3).2.1) 0)) 3 (((wkp S ro e (wk0 S) 4).2.1) 0)))) (f := vp_updL (vp_updL (vp_updL (zb S 17) 0 1) 1 (((wkp S ro e (wk0 S) 2).2.1) 0)) 2 (((wkp S ro e (wk0 S) 3).2.1) 0)) F 17 1 rfl rfl 3 (by decide) (by omega) (by decide) dX8_work_114 rfl ?_
                                        refine z_aload_n (pc := 115) F dX8_work_115 rfl 0 rfl ?_
                                        refine z_get (pc := 116) (v := .ref (r 10)) F iX8 0 rfl rfl 13 (by decide) tw_871 rfl dX8_work_116 ?_
                                        refine z_iconst (pc := 119) (v := 4) F dX8_work_119 (by decide) ?_
                                        refine z_iload_n (pc := 120) F dX8_work_120 rfl 1 rfl ?_
                                        refine z_imul (pc := 121) F dX8_work_121 ?_
                                        refine z_iload (pc := 122) F dX8_work_122 3 rfl ?_
                                        refine z_iadd (pc := 124) F dX8_work_124 ?_
                                        refine z_ialdN (pc := 125) (f := za S 10) F 10 0 rfl rfl (4 * q + 3) (ix4 q 3) (by omega) (by decide) dX8_work_125 ?_
                                        rw [show (za S 10 (4 * q + 3)) = nI (e 4) from hE3]
                                        refine z_istore_n (pc := 126) (lv' := [(0, .ref (r 0)), (1, .int (nI q)), (2, .int (nI ro)), (3, .int (nI (e 4))), (4, .int 3), (5, .int (nI (e 4)))]) F dX8_work_126 rfl (by decide) [1, 2, 3, 0, 4, 5] rfl ?_
                                        refine z_iinc (pc := 127) (v := 4) (lv' := [(0, .ref (r 0)), (1, .int (nI q)), (2, .int (nI ro)), (3, .int (nI (e 4))), (4, .int 4), (5, .int (nI (e 4)))]) F (j := 4) dX8_work_127 rfl (by decide) (by decide) [1, 2, 3, 4, 0, 5] rfl ?_
                                        refine z_goto (pc := 130) (tgt := 35) F dX8_work_130 (by decide) ?_
                                        refine z_iload (pc := 35) F dX8_work_35 4 rfl ?_
                                        refine z_iconst (pc := 37) (v := 4) F dX8_work_37 (by decide) ?_
                                        refine z_icmp_ge (pc := 38) (tgt := 133) F dX8_work_38 (by decide) (fun _ => ?_) (fun h => absurd h (by decide))
                                        refine z_aload_n (pc := 133) F dX8_work_133 rfl 0 rfl ?_
                                        refine z_get (pc := 134) (v := .int ((wkp S ro e (wk0 S) 4).1)) F iX8 0 rfl rfl 21 (by decide) tw_879 rfl dX8_work_134 ?_
                                        refine z_if_ne (pc := 137) (tgt := 155) F dX8_work_137 (by decide) (fun c137 => ?_) (fun c137 => ?_)
                                        · refine z_iconst (pc := 155) (v := 0) F dX8_work_155 (by decide) ?_
                                          exact z_zret (pc := 156) F hR rfl dX8_work_156 (Nat.le_of_ble_eq_true rfl) (Nat.le_of_ble_eq_true rfl) ⟨by rw [show decide ((wkp S ro e (wk0 S) 4).1 = 0 ∧ ¬ wkm S ro e (wk0 S) 0 = 0) = false from by first | (simp [c137]; done) | (simp [c147]; done)]; rfl, by rw [wkmd, hv0, hv1, hv2, hv3]; try rfl⟩
                                        · refine z_aload_n (pc := 140) F dX8_work_140 rfl 0 rfl ?_
                                          refine z_get (pc := 141) (v := .ref (r 17)) F iX8 0 rfl rfl 23 (by decide) tw_881 rfl dX8_work_141 ?_
                                          refine z_iconst (pc := 144) (v := 0) F dX8_work_144 (by decide) ?_
                                          refine z_laldN (pc := 145) (f := vp_updL (vp_updL (vp_updL (vp_updL (zb S 17) 0 1) 1 (((wkp S ro e (wk0 S) 2).2.1) 0)) 2 (((wkp S ro e (wk0 S) 3).2.1) 0)) 3 (((wkp S ro e (wk0 S) 4).2.1) 0)) F 17 1 rfl rfl 0 (by decide) (by omega) (by decide) dX8_work_145 ?_
                                          rw [show ((vp_updL (vp_updL (vp_updL (vp_updL (zb S 17) 0 1) 1 (((wkp S ro e (wk0 S) 2).2.1) 0)) 2 (((wkp S ro e (wk0 S) 3).2.1) 0)) 3 (((wkp S ro e (wk0 S) 4).2.1) 0)) 0) = wkm S ro e (wk0 S) 0 from (by simp [vp_updL, hv0])]
                                          refine z_lconst (pc := 146) (v := 0) F dX8_work_146 (by decide) ?_
                                          refine z_l_eq (pc := 147) (tgt := 155) F dX8_work_147 dX8_work_148 (by decide) (fun c147 => ?_) (fun c147 => ?_)
                                          · refine z_iconst (pc := 155) (v := 0) F dX8_work_155 (by decide) ?_
                                            exact z_zret (pc := 156) F hR rfl dX8_work_156 (Nat.le_of_ble_eq_true rfl) (Nat.le_of_ble_eq_true rfl) ⟨by rw [show decide ((wkp S ro e (wk0 S) 4).1 = 0 ∧ ¬ wkm S ro e (wk0 S) 0 = 0) = false from by first | (simp [c137]; done) | (simp [c147]; done)]; rfl, by rw [wkmd, hv0, hv1, hv2, hv3]; try rfl⟩
                                          · refine z_iconst (pc := 151) (v := 1) F dX8_work_151 (by decide) ?_
                                            refine z_goto (pc := 152) (tgt := 156) F dX8_work_152 (by decide) ?_
                                            exact z_zret (pc := 156) F hR rfl dX8_work_156 (Nat.le_of_ble_eq_true rfl) (Nat.le_of_ble_eq_true rfl) ⟨by rw [show decide ((wkp S ro e (wk0 S) 4).1 = 0 ∧ ¬ wkm S ro e (wk0 S) 0 = 0) = true from by simp [c137, c147]]; rfl, by rw [wkmd, hv0, hv1, hv2, hv3]; try rfl⟩
                                    · have hlt := ngI (by omega) (by omega) c62
                                      obtain ⟨m, hm⟩ : ∃ m, e 4 - kk = m + 1 := ⟨e 4 - kk - 1, by omega⟩
                                      rw [hm] at hty hrr
                                      obtain ⟨t', hw, hty⟩ := tyr_s hty
                                      rw [rrn_s hw] at hrr
                                      obtain ⟨hok', hlen'⟩ := rsOk_step ho hro (num := za S 12 kk) hok hw
                                      have hm' : e 4 - (kk + 1) = m := by omega
                                      refine z_aload_n (pc := 65) F dX8_work_65 rfl 0 rfl ?_
                                      refine z_iload_n (pc := 66) F dX8_work_66 rfl 2 rfl ?_
                                      refine z_iload (pc := 67) F dX8_work_67 4 rfl ?_
                                      refine z_callVW (pc := 69) (q0 := 0) (ci := 8) (rest := []) F (c_X8_act l E r (zM S (vp_updL (vp_updL (vp_updL (zb S 17) 0 1) 1 (((wkp S ro e (wk0 S) 2).2.1) 0)) 2 (((wkp S ro e (wk0 S) 3).2.1) 0))) p ro kk (cOp S kk) t t' (by omega) hro (hcd kk (by omega) (by omega)) hw (by omega) hok ho) 2 ww_Model_126 (by decide +kernel) rfl ⟨Nat.le_of_ble_eq_true rfl, Nat.le_of_ble_eq_true rfl⟩ ⟨Nat.le_of_ble_eq_true rfl, Nat.le_of_ble_eq_true rfl⟩ rfl rfl rfl rfl (Nat.le_of_ble_eq_true rfl) dX8_work_69 (fun v_ w1_ hp => ?_)
                                      obtain ⟨rfl, rfl⟩ := hp
                                      show Z X (0) (0) (mw E r (mwk S (nI t'.length) ((rst S ro (cOp S kk) (za S 12 kk) (t'.length - 1) p).1) ((rst S ro (cOp S kk) (za S 12 kk) (t'.length - 1) p).2.1) ((rst S ro (cOp S kk) (za S 12 kk) (t'.length - 1) p).2.2) (vp_updL (vp_updL (vp_updL (zb S 17) 0 1) 1 (((wkp S ro e (wk0 S) 2).2.1) 0)) 2 (((wkp S ro e (wk0 S) 3).2.1) 0)))) [(0, .ref (r 0)), (1, .int (nI q)), (2, .int (nI ro)), (4, .int 3), (5, .int (nI kk))] 72 []
                                      refine z_iinc (pc := 72) (v := nI (kk + 1)) (lv' := [(0, .ref (r 0)), (1, .int (nI q)), (2, .int (nI ro)), (4, .int 3), (5, .int (nI (kk + 1)))]) F (j := 4) dX8_work_72 rfl (nI_1 _) (by decide) [1, 2, 3, 4, 0] rfl ?_
                                      refine z_goto (pc := 75) (tgt := 49) F dX8_work_75 (by decide) ?_
                                      exact ih49_3 (kk + 1) t' (rst S ro (cOp S kk) (za S 12 kk) (t'.length - 1) p) (by omega) (by omega) (by omega) (by rw [hm']; exact hty) (by rw [hm']; exact hrr) hok' (by omega)
                                refine z_locals (lv' := [(0, .ref (r 0)), (1, .int (nI q)), (2, .int (nI ro)), (4, .int 3), (5, .int (nI (e 3)))]) [0, 1, 2, 4, 5] rfl ?_
                                exact L49_3 _ (e 3) [] (wkp S ro e (wk0 S) 3) (Nat.lt_succ_self _) (Nat.le_refl _) m3 (hty4 3 (by decide)) rfl trivial (Nat.zero_le _)
                            · have hlt := ngI (by omega) (by omega) c62
                              obtain ⟨m, hm⟩ : ∃ m, e 3 - kk = m + 1 := ⟨e 3 - kk - 1, by omega⟩
                              rw [hm] at hty hrr
                              obtain ⟨t', hw, hty⟩ := tyr_s hty
                              rw [rrn_s hw] at hrr
                              obtain ⟨hok', hlen'⟩ := rsOk_step ho hro (num := za S 12 kk) hok hw
                              have hm' : e 3 - (kk + 1) = m := by omega
                              refine z_aload_n (pc := 65) F dX8_work_65 rfl 0 rfl ?_
                              refine z_iload_n (pc := 66) F dX8_work_66 rfl 2 rfl ?_
                              refine z_iload (pc := 67) F dX8_work_67 4 rfl ?_
                              refine z_callVW (pc := 69) (q0 := 0) (ci := 8) (rest := []) F (c_X8_act l E r (zM S (vp_updL (vp_updL (zb S 17) 0 1) 1 (((wkp S ro e (wk0 S) 2).2.1) 0))) p ro kk (cOp S kk) t t' (by omega) hro (hcd kk (by omega) (by omega)) hw (by omega) hok ho) 2 ww_Model_126 (by decide +kernel) rfl ⟨Nat.le_of_ble_eq_true rfl, Nat.le_of_ble_eq_true rfl⟩ ⟨Nat.le_of_ble_eq_true rfl, Nat.le_of_ble_eq_true rfl⟩ rfl rfl rfl rfl (Nat.le_of_ble_eq_true rfl) dX8_work_69 (fun v_ w1_ hp => ?_)
                              obtain ⟨rfl, rfl⟩ := hp
                              show Z X (0) (0) (mw E r (mwk S (nI t'.length) ((rst S ro (cOp S kk) (za S 12 kk) (t'.length - 1) p).1) ((rst S ro (cOp S kk) (za S 12 kk) (t'.length - 1) p).2.1) ((rst S ro (cOp S kk) (za S 12 kk) (t'.length - 1) p).2.2) (vp_updL (vp_updL (zb S 17) 0 1) 1 (((wkp S ro e (wk0 S) 2).2.1) 0)))) [(0, .ref (r 0)), (1, .int (nI q)), (2, .int (nI ro)), (4, .int 2), (5, .int (nI kk))] 72 []
                              refine z_iinc (pc := 72) (v := nI (kk + 1)) (lv' := [(0, .ref (r 0)), (1, .int (nI q)), (2, .int (nI ro)), (4, .int 2), (5, .int (nI (kk + 1)))]) F (j := 4) dX8_work_72 rfl (nI_1 _) (by decide) [1, 2, 3, 4, 0] rfl ?_
                              refine z_goto (pc := 75) (tgt := 49) F dX8_work_75 (by decide) ?_
                              exact ih49_2 (kk + 1) t' (rst S ro (cOp S kk) (za S 12 kk) (t'.length - 1) p) (by omega) (by omega) (by omega) (by rw [hm']; exact hty) (by rw [hm']; exact hrr) hok' (by omega)
                        refine z_locals (lv' := [(0, .ref (r 0)), (1, .int (nI q)), (2, .int (nI ro)), (4, .int 2), (5, .int (nI (e 2)))]) [0, 1, 2, 4, 5] rfl ?_
                        exact L49_2 _ (e 2) [] (wkp S ro e (wk0 S) 2) (Nat.lt_succ_self _) (Nat.le_refl _) m2 (hty4 2 (by decide)) rfl trivial (Nat.zero_le _)
                    · have hlt := ngI (by omega) (by omega) c62
                      obtain ⟨m, hm⟩ : ∃ m, e 2 - kk = m + 1 := ⟨e 2 - kk - 1, by omega⟩
                      rw [hm] at hty hrr
                      obtain ⟨t', hw, hty⟩ := tyr_s hty
                      rw [rrn_s hw] at hrr
                      obtain ⟨hok', hlen'⟩ := rsOk_step ho hro (num := za S 12 kk) hok hw
                      have hm' : e 2 - (kk + 1) = m := by omega
                      refine z_aload_n (pc := 65) F dX8_work_65 rfl 0 rfl ?_
                      refine z_iload_n (pc := 66) F dX8_work_66 rfl 2 rfl ?_
                      refine z_iload (pc := 67) F dX8_work_67 4 rfl ?_
                      refine z_callVW (pc := 69) (q0 := 0) (ci := 8) (rest := []) F (c_X8_act l E r (zM S (vp_updL (zb S 17) 0 1)) p ro kk (cOp S kk) t t' (by omega) hro (hcd kk (by omega) (by omega)) hw (by omega) hok ho) 2 ww_Model_126 (by decide +kernel) rfl ⟨Nat.le_of_ble_eq_true rfl, Nat.le_of_ble_eq_true rfl⟩ ⟨Nat.le_of_ble_eq_true rfl, Nat.le_of_ble_eq_true rfl⟩ rfl rfl rfl rfl (Nat.le_of_ble_eq_true rfl) dX8_work_69 (fun v_ w1_ hp => ?_)
                      obtain ⟨rfl, rfl⟩ := hp
                      show Z X (0) (0) (mw E r (mwk S (nI t'.length) ((rst S ro (cOp S kk) (za S 12 kk) (t'.length - 1) p).1) ((rst S ro (cOp S kk) (za S 12 kk) (t'.length - 1) p).2.1) ((rst S ro (cOp S kk) (za S 12 kk) (t'.length - 1) p).2.2) (vp_updL (zb S 17) 0 1))) [(0, .ref (r 0)), (1, .int (nI q)), (2, .int (nI ro)), (4, .int 1), (5, .int (nI kk))] 72 []
                      refine z_iinc (pc := 72) (v := nI (kk + 1)) (lv' := [(0, .ref (r 0)), (1, .int (nI q)), (2, .int (nI ro)), (4, .int 1), (5, .int (nI (kk + 1)))]) F (j := 4) dX8_work_72 rfl (nI_1 _) (by decide) [1, 2, 3, 4, 0] rfl ?_
                      refine z_goto (pc := 75) (tgt := 49) F dX8_work_75 (by decide) ?_
                      exact ih49_1 (kk + 1) t' (rst S ro (cOp S kk) (za S 12 kk) (t'.length - 1) p) (by omega) (by omega) (by omega) (by rw [hm']; exact hty) (by rw [hm']; exact hrr) hok' (by omega)
                refine z_locals (lv' := [(0, .ref (r 0)), (1, .int (nI q)), (2, .int (nI ro)), (4, .int 1), (5, .int (nI (e 1)))]) [0, 1, 2, 4, 5] rfl ?_
                exact L49_1 _ (e 1) [] (wkp S ro e (wk0 S) 1) (Nat.lt_succ_self _) (Nat.le_refl _) m1 (hty4 1 (by decide)) rfl trivial (Nat.zero_le _)
              · rw [if_neg hz0] at ht
                subst ht
                have hv0 : wkm S ro e (wk0 S) 0 = (wkp S ro e (wk0 S) 1).2.1 0 := by rw [wkm, if_neg hz0]
                refine z_aload_n (pc := 78) F dX8_work_78 rfl 0 rfl ?_
                refine z_get (pc := 79) (v := .ref (r 17)) F iX8 0 rfl rfl 23 (by decide) tw_881 rfl dX8_work_79 ?_
                refine z_iload (pc := 82) F dX8_work_82 3 rfl ?_
                refine z_aload_n (pc := 84) F dX8_work_84 rfl 0 rfl ?_
                refine z_get (pc := 85) (v := .int (nI ([false]).length)) F iX8 0 rfl rfl 19 (by decide) tw_877 rfl dX8_work_85 ?_
                rw [show (nI ([false]).length) = nI 1 from rfl]
                refine z_if_le (pc := 88) (tgt := 98) F dX8_work_88 (by decide) (fun h => absurd h (by decide)) (fun _ => ?_)
                refine z_aload_n (pc := 91) F dX8_work_91 rfl 0 rfl ?_
                refine z_callVW (pc := 92) (q0 := 0) (ci := 8) (rest := [.int 0, .ref (r 17)]) F (c_X8_pop l E r (zM S (zb S 17)) 0 ((wkp S ro e (wk0 S) 1).1) ((wkp S ro e (wk0 S) 1).2.1) ((wkp S ro e (wk0 S) 1).2.2) (by decide)) 0 ww_Model_104 (by decide +kernel) rfl ⟨Nat.le_of_ble_eq_true rfl, Nat.le_of_ble_eq_true rfl⟩ ⟨Nat.le_of_ble_eq_true rfl, Nat.le_of_ble_eq_true rfl⟩ rfl rfl rfl rfl (Nat.le_of_ble_eq_true rfl) dX8_work_92 (fun v_ w1_ hp => ?_)
                obtain ⟨rfl, rfl⟩ := hp
                show Z X (0) (0) (mw E r (mwk S (nI 0) ((wkp S ro e (wk0 S) 1).1) ((wkp S ro e (wk0 S) 1).2.1) ((wkp S ro e (wk0 S) 1).2.2) (zb S 17))) [(0, .ref (r 0)), (1, .int (nI q)), (2, .int (nI ro)), (4, .int 0), (5, .int (nI (e 1)))] 95 [.long (((wkp S ro e (wk0 S) 1).2.1) 0), .int 0, .ref (r 17)]
                refine z_goto (pc := 95) (tgt := 114) F dX8_work_95 (by decide) ?_
                refine z_lastN (pc := 114) (ws' := mw E r (mwk S (nI 0) ((wkp S ro e (wk0 S) 1).1) ((wkp S ro e (wk0 S) 1).2.1) ((wkp S ro e (wk0 S) 1).2.2) (vp_updL (zb S 17) 0 (((wkp S ro e (wk0 S) 1).2.1) 0)))) (f := zb S 17) F 17 1 rfl rfl 0 (by decide) (by omega) (by decide) dX8_work_114 rfl ?_
                refine z_aload_n (pc := 115) F dX8_work_115 rfl 0 rfl ?_
                refine z_get (pc := 116) (v := .ref (r 10)) F iX8 0 rfl rfl 13 (by decide) tw_871 rfl dX8_work_116 ?_
                refine z_iconst (pc := 119) (v := 4) F dX8_work_119 (by decide) ?_
                refine z_iload_n (pc := 120) F dX8_work_120 rfl 1 rfl ?_
                refine z_imul (pc := 121) F dX8_work_121 ?_
                refine z_iload (pc := 122) F dX8_work_122 3 rfl ?_
                refine z_iadd (pc := 124) F dX8_work_124 ?_
                refine z_ialdN (pc := 125) (f := za S 10) F 10 0 rfl rfl (4 * q + 0) (ix4 q 0) (by omega) (by decide) dX8_work_125 ?_
                rw [show (za S 10 (4 * q + 0)) = nI (e 1) from hE0]
                refine z_istore_n (pc := 126) (lv' := [(0, .ref (r 0)), (1, .int (nI q)), (2, .int (nI ro)), (3, .int (nI (e 1))), (4, .int 0), (5, .int (nI (e 1)))]) F dX8_work_126 rfl (by decide) [1, 2, 3, 0, 4, 5] rfl ?_
                refine z_iinc (pc := 127) (v := 1) (lv' := [(0, .ref (r 0)), (1, .int (nI q)), (2, .int (nI ro)), (3, .int (nI (e 1))), (4, .int 1), (5, .int (nI (e 1)))]) F (j := 4) dX8_work_127 rfl (by decide) (by decide) [1, 2, 3, 4, 0, 5] rfl ?_
                refine z_goto (pc := 130) (tgt := 35) F dX8_work_130 (by decide) ?_
                refine z_iload (pc := 35) F dX8_work_35 4 rfl ?_
                refine z_iconst (pc := 37) (v := 4) F dX8_work_37 (by decide) ?_
                refine z_icmp_ge (pc := 38) (tgt := 133) F dX8_work_38 (by decide) (fun h => absurd h (by decide)) (fun _ => ?_)
                refine z_aload_n (pc := 41) F dX8_work_41 rfl 0 rfl ?_
                refine z_iconst (pc := 42) (v := 0) F dX8_work_42 (by decide) ?_
                refine z_put (pc := 43) (ws' := mw E r (mwk S 0 ((wkp S ro e (wk0 S) 1).1) ((wkp S ro e (wk0 S) 1).2.1) ((wkp S ro e (wk0 S) 1).2.2) (vp_updL (zb S 17) 0 (((wkp S ro e (wk0 S) 1).2.1) 0)))) F iX8 tyX8 tyX8_ok nmX8 0 rfl rfl 19 (by decide) tw_877 rfl rfl rfl (Nat.le_of_ble_eq_true rfl) dX8_work_43 rfl ?_
                refine z_iload_n (pc := 46) F dX8_work_46 rfl 3 rfl ?_
                refine z_istore (pc := 47) (lv' := [(0, .ref (r 0)), (1, .int (nI q)), (2, .int (nI ro)), (3, .int (nI (e 1))), (4, .int 1), (5, .int (nI (e 1)))]) F dX8_work_47 (by decide) [1, 2, 3, 4, 5, 0] rfl ?_
                have L49_1 : ∀ (N : Nat) (kk : Nat) (t : List Bool) (p : zP), (e 2 - kk) < N → (e 1 ≤ kk) → (kk ≤ e 2) → (tyr S kk (e 2 - kk) t = some (if e 2 = e 1 then [] else [false])) → (rrn S ro kk (e 2 - kk) t p = (wkp S ro e (wk0 S) 2)) → (rsOk p.2.1 t) → (t.length ≤ kk - e 1) → Z X (0) (0) (mw E r (mwk S (nI t.length) (p.1) (p.2.1) (p.2.2) (vp_updL (zb S 17) 0 (((wkp S ro e (wk0 S) 1).2.1) 0)))) [(0, .ref (r 0)), (1, .int (nI q)), (2, .int (nI ro)), (4, .int 1), (5, .int (nI kk))] 49 [] := by
                  intro N
                  induction N with
                  | zero => intro kk t p hN; exact absurd hN (Nat.not_lt_zero _)
                  | succ N ih49_1 =>
                    intro kk t p hN hk1 hk2 hty hrr hok hlen
                    refine z_iload (pc := 49) F dX8_work_49 4 rfl ?_
                    refine z_aload_n (pc := 51) F dX8_work_51 rfl 0 rfl ?_
                    refine z_get (pc := 52) (v := .ref (r 10)) F iX8 0 rfl rfl 13 (by decide) tw_871 rfl dX8_work_52 ?_
                    refine z_iconst (pc := 55) (v := 4) F dX8_work_55 (by decide) ?_
                    refine z_iload_n (pc := 56) F dX8_work_56 rfl 1 rfl ?_
                    refine z_imul (pc := 57) F dX8_work_57 ?_
                    refine z_iload (pc := 58) F dX8_work_58 3 rfl ?_
                    refine z_iadd (pc := 60) F dX8_work_60 ?_
                    refine z_ialdN (pc := 61) (f := za S 10) F 10 0 rfl rfl (4 * q + 1) (ix4 q 1) (by omega) (by decide) dX8_work_61 ?_
                    rw [show (za S 10 (4 * q + 1)) = nI (e 2) from hE1]
                    refine z_icmp_ge (pc := 62) (tgt := 78) F dX8_work_62 (by decide) (fun c62 => ?_) (fun c62 => ?_)
                    · have hkk : kk = e 2 := Nat.le_antisymm hk2 (gI (by omega) (by omega) c62)
                      subst hkk
                      rw [Nat.sub_self] at hty hrr
                      have ht := Option.some.inj hty
                      have hp : p = (wkp S ro e (wk0 S) 2) := hrr
                      subst hp
                      rcases Classical.em (e 2 = e 1) with hz1 | hz1
                      · rw [if_pos hz1] at ht
                        subst ht
                        have hv1 : wkm S ro e (wk0 S) 1 = 0 := by rw [wkm, if_pos hz1]; rfl
                        refine z_aload_n (pc := 78) F dX8_work_78 rfl 0 rfl ?_
                        refine z_get (pc := 79) (v := .ref (r 17)) F iX8 0 rfl rfl 23 (by decide) tw_881 rfl dX8_work_79 ?_
                        refine z_iload (pc := 82) F dX8_work_82 3 rfl ?_
                        refine z_aload_n (pc := 84) F dX8_work_84 rfl 0 rfl ?_
                        refine z_get (pc := 85) (v := .int (nI ([] : List Bool).length)) F iX8 0 rfl rfl 19 (by decide) tw_877 rfl dX8_work_85 ?_
                        rw [show (nI ([] : List Bool).length) = nI 0 from rfl]
                        refine z_if_le (pc := 88) (tgt := 98) F dX8_work_88 (by decide) (fun _ => ?_) (fun h => absurd h (by decide))
                        refine z_iload (pc := 98) F dX8_work_98 3 rfl ?_
                        refine z_if_eq (pc := 100) (tgt := 109) F dX8_work_100 (by decide) (fun h => absurd h (by decide)) (fun _ => ?_)
                        refine z_iload (pc := 103) F dX8_work_103 3 rfl ?_
                        refine z_iconst (pc := 105) (v := 3) F dX8_work_105 (by decide) ?_
                        refine z_icmp_ne (pc := 106) (tgt := 113) F dX8_work_106 (by decide) (fun _ => ?_) (fun h => absurd h (by decide))
                        refine z_lconst (pc := 113) (v := 0) F dX8_work_113 (by decide) ?_
                        refine z_lastN (pc := 114) (ws' := mw E r (mwk S (nI ([] : List Bool).length) ((wkp S ro e (wk0 S) 2).1) ((wkp S ro e (wk0 S) 2).2.1) ((wkp S ro e (wk0 S) 2).2.2) (vp_updL (vp_updL (zb S 17) 0 (((wkp S ro e (wk0 S) 1).2.1) 0)) 1 0))) (f := vp_updL (zb S 17) 0 (((wkp S ro e (wk0 S) 1).2.1) 0)) F 17 1 rfl rfl 1 (by decide) (by omega) (by decide) dX8_work_114 rfl ?_
                        refine z_aload_n (pc := 115) F dX8_work_115 rfl 0 rfl ?_
                        refine z_get (pc := 116) (v := .ref (r 10)) F iX8 0 rfl rfl 13 (by decide) tw_871 rfl dX8_work_116 ?_
                        refine z_iconst (pc := 119) (v := 4) F dX8_work_119 (by decide) ?_
                        refine z_iload_n (pc := 120) F dX8_work_120 rfl 1 rfl ?_
                        refine z_imul (pc := 121) F dX8_work_121 ?_
                        refine z_iload (pc := 122) F dX8_work_122 3 rfl ?_
                        refine z_iadd (pc := 124) F dX8_work_124 ?_
                        refine z_ialdN (pc := 125) (f := za S 10) F 10 0 rfl rfl (4 * q + 1) (ix4 q 1) (by omega) (by decide) dX8_work_125 ?_
                        rw [show (za S 10 (4 * q + 1)) = nI (e 2) from hE1]
                        refine z_istore_n (pc := 126) (lv' := [(0, .ref (r 0)), (1, .int (nI q)), (2, .int (nI ro)), (3, .int (nI (e 2))), (4, .int 1), (5, .int (nI (e 2)))]) F dX8_work_126 rfl (by decide) [1, 2, 3, 0, 4, 5] rfl ?_
                        refine z_iinc (pc := 127) (v := 2) (lv' := [(0, .ref (r 0)), (1, .int (nI q)), (2, .int (nI ro)), (3, .int (nI (e 2))), (4, .int 2), (5, .int (nI (e 2)))]) F (j := 4) dX8_work_127 rfl (by decide) (by decide) [1, 2, 3, 4, 0, 5] rfl ?_
                        refine z_goto (pc := 130) (tgt := 35) F dX8_work_130 (by decide) ?_
                        refine z_iload (pc := 35) F dX8_work_35 4 rfl ?_
                        refine z_iconst (pc := 37) (v := 4) F dX8_work_37 (by decide) ?_
                        refine z_icmp_ge (pc := 38) (tgt := 133) F dX8_work_38 (by decide) (fun h => absurd h (by decide)) (fun _ => ?_)
                        refine z_aload_n (pc := 41) F dX8_work_41 rfl 0 rfl ?_
                        refine z_iconst (pc := 42) (v := 0) F dX8_work_42 (by decide) ?_
                        refine z_put (pc := 43) (ws' := mw E r (mwk S 0 ((wkp S ro e (wk0 S) 2).1) ((wkp S ro e (wk0 S) 2).2.1) ((wkp S ro e (wk0 S) 2).2.2) (vp_updL (vp_updL (zb S 17) 0 (((wkp S ro e (wk0 S) 1).2.1) 0)) 1 0))) F iX8 tyX8 tyX8_ok nmX8 0 rfl rfl 19 (by decide) tw_877 rfl rfl rfl (Nat.le_of_ble_eq_true rfl) dX8_work_43 rfl ?_
                        refine z_iload_n (pc := 46) F dX8_work_46 rfl 3 rfl ?_
                        refine z_istore (pc := 47) (lv' := [(0, .ref (r 0)), (1, .int (nI q)), (2, .int (nI ro)), (3, .int (nI (e 2))), (4, .int 2), (5, .int (nI (e 2)))]) F dX8_work_47 (by decide) [1, 2, 3, 4, 5, 0] rfl ?_
                        have L49_2 : ∀ (N : Nat) (kk : Nat) (t : List Bool) (p : zP), (e 3 - kk) < N → (e 2 ≤ kk) → (kk ≤ e 3) → (tyr S kk (e 3 - kk) t = some (if e 3 = e 2 then [] else [false])) → (rrn S ro kk (e 3 - kk) t p = (wkp S ro e (wk0 S) 3)) → (rsOk p.2.1 t) → (t.length ≤ kk - e 2) → Z X (0) (0) (mw E r (mwk S (nI t.length) (p.1) (p.2.1) (p.2.2) (vp_updL (vp_updL (zb S 17) 0 (((wkp S ro e (wk0 S) 1).2.1) 0)) 1 0))) [(0, .ref (r 0)), (1, .int (nI q)), (2, .int (nI ro)), (4, .int 2), (5, .int (nI kk))] 49 [] := by
                          intro N
                          induction N with
                          | zero => intro kk t p hN; exact absurd hN (Nat.not_lt_zero _)
                          | succ N ih49_2 =>
                            intro kk t p hN hk1 hk2 hty hrr hok hlen
                            refine z_iload (pc := 49) F dX8_work_49 4 rfl ?_
                            refine z_aload_n (pc := 51) F dX8_work_51 rfl 0 rfl ?_
                            refine z_get (pc := 52) (v := .ref (r 10)) F iX8 0 rfl rfl 13 (by decide) tw_871 rfl dX8_work_52 ?_
                            refine z_iconst (pc := 55) (v := 4) F dX8_work_55 (by decide) ?_
                            refine z_iload_n (pc := 56) F dX8_work_56 rfl 1 rfl ?_
                            refine z_imul (pc := 57) F dX8_work_57 ?_
                            refine z_iload (pc := 58) F dX8_work_58 3 rfl ?_
                            refine z_iadd (pc := 60) F dX8_work_60 ?_
                            refine z_ialdN (pc := 61) (f := za S 10) F 10 0 rfl rfl (4 * q + 2) (ix4 q 2) (by omega) (by decide) dX8_work_61 ?_
                            rw [show (za S 10 (4 * q + 2)) = nI (e 3) from hE2]
                            refine z_icmp_ge (pc := 62) (tgt := 78) F dX8_work_62 (by decide) (fun c62 => ?_) (fun c62 => ?_)
                            · have hkk : kk = e 3 := Nat.le_antisymm hk2 (gI (by omega) (by omega) c62)
                              subst hkk
                              rw [Nat.sub_self] at hty hrr
                              have ht := Option.some.inj hty
                              have hp : p = (wkp S ro e (wk0 S) 3) := hrr
                              subst hp
                              rcases Classical.em (e 3 = e 2) with hz2 | hz2
                              · rw [if_pos hz2] at ht
                                subst ht
                                have hv2 : wkm S ro e (wk0 S) 2 = 0 := by rw [wkm, if_pos hz2]; rfl
                                refine z_aload_n (pc := 78) F dX8_work_78 rfl 0 rfl ?_
                                refine z_get (pc := 79) (v := .ref (r 17)) F iX8 0 rfl rfl 23 (by decide) tw_881 rfl dX8_work_79 ?_
                                refine z_iload (pc := 82) F dX8_work_82 3 rfl ?_
                                refine z_aload_n (pc := 84) F dX8_work_84 rfl 0 rfl ?_
                                refine z_get (pc := 85) (v := .int (nI ([] : List Bool).length)) F iX8 0 rfl rfl 19 (by decide) tw_877 rfl dX8_work_85 ?_
                                rw [show (nI ([] : List Bool).length) = nI 0 from rfl]
                                refine z_if_le (pc := 88) (tgt := 98) F dX8_work_88 (by decide) (fun _ => ?_) (fun h => absurd h (by decide))
                                refine z_iload (pc := 98) F dX8_work_98 3 rfl ?_
                                refine z_if_eq (pc := 100) (tgt := 109) F dX8_work_100 (by decide) (fun h => absurd h (by decide)) (fun _ => ?_)
                                refine z_iload (pc := 103) F dX8_work_103 3 rfl ?_
                                refine z_iconst (pc := 105) (v := 3) F dX8_work_105 (by decide) ?_
                                refine z_icmp_ne (pc := 106) (tgt := 113) F dX8_work_106 (by decide) (fun _ => ?_) (fun h => absurd h (by decide))
                                refine z_lconst (pc := 113) (v := 0) F dX8_work_113 (by decide) ?_
                                refine z_lastN (pc := 114) (ws' := mw E r (mwk S (nI ([] : List Bool).length) ((wkp S ro e (wk0 S) 3).1) ((wkp S ro e (wk0 S) 3).2.1) ((wkp S ro e (wk0 S) 3).2.2) (vp_updL (vp_updL (vp_updL (zb S 17) 0 (((wkp S ro e (wk0 S) 1).2.1) 0)) 1 0) 2 0))) (f := vp_updL (vp_updL (zb S 17) 0 (((wkp S ro e (wk0 S) 1).2.1) 0)) 1 0) F 17 1 rfl rfl 2 (by decide) (by omega) (by decide) dX8_work_114 rfl ?_
                                refine z_aload_n (pc := 115) F dX8_work_115 rfl 0 rfl ?_
                                refine z_get (pc := 116) (v := .ref (r 10)) F iX8 0 rfl rfl 13 (by decide) tw_871 rfl dX8_work_116 ?_
                                refine z_iconst (pc := 119) (v := 4) F dX8_work_119 (by decide) ?_
                                refine z_iload_n (pc := 120) F dX8_work_120 rfl 1 rfl ?_
                                refine z_imul (pc := 121) F dX8_work_121 ?_
                                refine z_iload (pc := 122) F dX8_work_122 3 rfl ?_
                                refine z_iadd (pc := 124) F dX8_work_124 ?_
                                refine z_ialdN (pc := 125) (f := za S 10) F 10 0 rfl rfl (4 * q + 2) (ix4 q 2) (by omega) (by decide) dX8_work_125 ?_
                                rw [show (za S 10 (4 * q + 2)) = nI (e 3) from hE2]
                                refine z_istore_n (pc := 126) (lv' := [(0, .ref (r 0)), (1, .int (nI q)), (2, .int (nI ro)), (3, .int (nI (e 3))), (4, .int 2), (5, .int (nI (e 3)))]) F dX8_work_126 rfl (by decide) [1, 2, 3, 0, 4, 5] rfl ?_
                                refine z_iinc (pc := 127) (v := 3) (lv' := [(0, .ref (r 0)), (1, .int (nI q)), (2, .int (nI ro)), (3, .int (nI (e 3))), (4, .int 3), (5, .int (nI (e 3)))]) F (j := 4) dX8_work_127 rfl (by decide) (by decide) [1, 2, 3, 4, 0, 5] rfl ?_
                                refine z_goto (pc := 130) (tgt := 35) F dX8_work_130 (by decide) ?_
                                refine z_iload (pc := 35) F dX8_work_35 4 rfl ?_
                                refine z_iconst (pc := 37) (v := 4) F dX8_work_37 (by decide) ?_
                                refine z_icmp_ge (pc := 38) (tgt := 133) F dX8_work_38 (by decide) (fun h => absurd h (by decide)) (fun _ => ?_)
                                refine z_aload_n (pc := 41) F dX8_work_41 rfl 0 rfl ?_
                                refine z_iconst (pc := 42) (v := 0) F dX8_work_42 (by decide) ?_
                                refine z_put (pc := 43) (ws' := mw E r (mwk S 0 ((wkp S ro e (wk0 S) 3).1) ((wkp S ro e (wk0 S) 3).2.1) ((wkp S ro e (wk0 S) 3).2.2) (vp_updL (vp_updL (vp_updL (zb S 17) 0 (((wkp S ro e (wk0 S) 1).2.1) 0)) 1 0) 2 0))) F iX8 tyX8 tyX8_ok nmX8 0 rfl rfl 19 (by decide) tw_877 rfl rfl rfl (Nat.le_of_ble_eq_true rfl) dX8_work_43 rfl ?_
                                refine z_iload_n (pc := 46) F dX8_work_46 rfl 3 rfl ?_
                                refine z_istore (pc := 47) (lv' := [(0, .ref (r 0)), (1, .int (nI q)), (2, .int (nI ro)), (3, .int (nI (e 3))), (4, .int 3), (5, .int (nI (e 3)))]) F dX8_work_47 (by decide) [1, 2, 3, 4, 5, 0] rfl ?_
                                have L49_3 : ∀ (N : Nat) (kk : Nat) (t : List Bool) (p : zP), (e 4 - kk) < N → (e 3 ≤ kk) → (kk ≤ e 4) → (tyr S kk (e 4 - kk) t = some (if e 4 = e 3 then [] else [false])) → (rrn S ro kk (e 4 - kk) t p = (wkp S ro e (wk0 S) 4)) → (rsOk p.2.1 t) → (t.length ≤ kk - e 3) → Z X (0) (0) (mw E r (mwk S (nI t.length) (p.1) (p.2.1) (p.2.2) (vp_updL (vp_updL (vp_updL (zb S 17) 0 (((wkp S ro e (wk0 S) 1).2.1) 0)) 1 0) 2 0))) [(0, .ref (r 0)), (1, .int (nI q)), (2, .int (nI ro)), (4, .int 3), (5, .int (nI kk))] 49 [] := by
                                  intro N
                                  induction N with
                                  | zero => intro kk t p hN; exact absurd hN (Nat.not_lt_zero _)
                                  | succ N ih49_3 =>
                                    intro kk t p hN hk1 hk2 hty hrr hok hlen
                                    refine z_iload (pc := 49) F dX8_work_49 4 rfl ?_
                                    refine z_aload_n (pc := 51) F dX8_work_51 rfl 0 rfl ?_
                                    refine z_get (pc := 52) (v := .ref (r 10)) F iX8 0 rfl rfl 13 (by decide) tw_871 rfl dX8_work_52 ?_
                                    refine z_iconst (pc := 55) (v := 4) F dX8_work_55 (by decide) ?_
                                    refine z_iload_n (pc := 56) F dX8_work_56 rfl 1 rfl ?_
                                    refine z_imul (pc := 57) F dX8_work_57 ?_
                                    refine z_iload (pc := 58) F dX8_work_58 3 rfl ?_
                                    refine z_iadd (pc := 60) F dX8_work_60 ?_
                                    refine z_ialdN (pc := 61) (f := za S 10) F 10 0 rfl rfl (4 * q + 3) (ix4 q 3) (by omega) (by decide) dX8_work_61 ?_
                                    rw [show (za S 10 (4 * q + 3)) = nI (e 4) from hE3]
                                    refine z_icmp_ge (pc := 62) (tgt := 78) F dX8_work_62 (by decide) (fun c62 => ?_) (fun c62 => ?_)
                                    · have hkk : kk = e 4 := Nat.le_antisymm hk2 (gI (by omega) (by omega) c62)
                                      subst hkk
                                      rw [Nat.sub_self] at hty hrr
                                      have ht := Option.some.inj hty
                                      have hp : p = (wkp S ro e (wk0 S) 4) := hrr
                                      subst hp
                                      rcases Classical.em (e 4 = e 3) with hz3 | hz3
                                      · rw [if_pos hz3] at ht
                                        subst ht
                                        have hv3 : wkm S ro e (wk0 S) 3 = 1 := by rw [wkm, if_pos hz3]; rfl
                                        refine z_aload_n (pc := 78) F dX8_work_78 rfl 0 rfl ?_
                                        refine z_get (pc := 79) (v := .ref (r 17)) F iX8 0 rfl rfl 23 (by decide) tw_881 rfl dX8_work_79 ?_
                                        refine z_iload (pc := 82) F dX8_work_82 3 rfl ?_
                                        refine z_aload_n (pc := 84) F dX8_work_84 rfl 0 rfl ?_
                                        refine z_get (pc := 85) (v := .int (nI ([] : List Bool).length)) F iX8 0 rfl rfl 19 (by decide) tw_877 rfl dX8_work_85 ?_
                                        rw [show (nI ([] : List Bool).length) = nI 0 from rfl]
                                        refine z_if_le (pc := 88) (tgt := 98) F dX8_work_88 (by decide) (fun _ => ?_) (fun h => absurd h (by decide))
                                        refine z_iload (pc := 98) F dX8_work_98 3 rfl ?_
                                        refine z_if_eq (pc := 100) (tgt := 109) F dX8_work_100 (by decide) (fun h => absurd h (by decide)) (fun _ => ?_)
                                        refine z_iload (pc := 103) F dX8_work_103 3 rfl ?_
                                        refine z_iconst (pc := 105) (v := 3) F dX8_work_105 (by decide) ?_
                                        refine z_icmp_ne (pc := 106) (tgt := 113) F dX8_work_106 (by decide) (fun h => absurd h (by decide)) (fun _ => ?_)
                                        refine z_lconst (pc := 109) (v := 1) F dX8_work_109 (by decide) ?_
                                        refine z_goto (pc := 110) (tgt := 114) F dX8_work_110 (by decide) ?_
                                        refine z_lastN (pc := 114) (ws' := mw E r (mwk S (nI ([] : List Bool).length) ((wkp S ro e (wk0 S) 4).1) ((wkp S ro e (wk0 S) 4).2.1) ((wkp S ro e (wk0 S) 4).2.2) (vp_updL (vp_updL (vp_updL (vp_updL (zb S 17) 0 (((wkp S ro e (wk0 S) 1).2.1) 0)) 1 0) 2 0) 3 1))) (f := vp_updL (vp_updL (vp_updL (zb S 17) 0 (((wkp S ro e (wk0 S) 1).2.1) 0)) 1 0) 2 0) F 17 1 rfl rfl 3 (by decide) (by omega) (by decide) dX8_work_114 rfl ?_
                                        refine z_aload_n (pc := 115) F dX8_work_115 rfl 0 rfl ?_
                                        refine z_get (pc := 116) (v := .ref (r 10)) F iX8 0 rfl rfl 13 (by decide) tw_871 rfl dX8_work_116 ?_
                                        refine z_iconst (pc := 119) (v := 4) F dX8_work_119 (by decide) ?_
                                        refine z_iload_n (pc := 120) F dX8_work_120 rfl 1 rfl ?_
                                        refine z_imul (pc := 121) F dX8_work_121 ?_
                                        refine z_iload (pc := 122) F dX8_work_122 3 rfl ?_
                                        refine z_iadd (pc := 124) F dX8_work_124 ?_
                                        refine z_ialdN (pc := 125) (f := za S 10) F 10 0 rfl rfl (4 * q + 3) (ix4 q 3) (by omega) (by decide) dX8_work_125 ?_
                                        rw [show (za S 10 (4 * q + 3)) = nI (e 4) from hE3]
                                        refine z_istore_n (pc := 126) (lv' := [(0, .ref (r 0)), (1, .int (nI q)), (2, .int (nI ro)), (3, .int (nI (e 4))), (4, .int 3), (5, .int (nI (e 4)))]) F dX8_work_126 rfl (by decide) [1, 2, 3, 0, 4, 5] rfl ?_
                                        refine z_iinc (pc := 127) (v := 4) (lv' := [(0, .ref (r 0)), (1, .int (nI q)), (2, .int (nI ro)), (3, .int (nI (e 4))), (4, .int 4), (5, .int (nI (e 4)))]) F (j := 4) dX8_work_127 rfl (by decide) (by decide) [1, 2, 3, 4, 0, 5] rfl ?_
                                        refine z_goto (pc := 130) (tgt := 35) F dX8_work_130 (by decide) ?_
                                        refine z_iload (pc := 35) F dX8_work_35 4 rfl ?_
                                        refine z_iconst (pc := 37) (v := 4) F dX8_work_37 (by decide) ?_
                                        refine z_icmp_ge (pc := 38) (tgt := 133) F dX8_work_38 (by decide) (fun _ => ?_) (fun h => absurd h (by decide))
                                        refine z_aload_n (pc := 133) F dX8_work_133 rfl 0 rfl ?_
                                        refine z_get (pc := 134) (v := .int ((wkp S ro e (wk0 S) 4).1)) F iX8 0 rfl rfl 21 (by decide) tw_879 rfl dX8_work_134 ?_
                                        refine z_if_ne (pc := 137) (tgt := 155) F dX8_work_137 (by decide) (fun c137 => ?_) (fun c137 => ?_)
                                        · refine z_iconst (pc := 155) (v := 0) F dX8_work_155 (by decide) ?_
                                          exact z_zret (pc := 156) F hR rfl dX8_work_156 (Nat.le_of_ble_eq_true rfl) (Nat.le_of_ble_eq_true rfl) ⟨by rw [show decide ((wkp S ro e (wk0 S) 4).1 = 0 ∧ ¬ wkm S ro e (wk0 S) 0 = 0) = false from by first | (simp [c137]; done) | (simp [c147]; done)]; rfl, by rw [wkmd, hv0, hv1, hv2, hv3]; try rfl⟩
                                        · refine z_aload_n (pc := 140) F dX8_work_140 rfl 0 rfl ?_
                                          refine z_get (pc := 141) (v := .ref (r 17)) F iX8 0 rfl rfl 23 (by decide) tw_881 rfl dX8_work_141 ?_
                                          refine z_iconst (pc := 144) (v := 0) F dX8_work_144 (by decide) ?_
                                          refine z_laldN (pc := 145) (f := vp_updL (vp_updL (vp_updL (vp_updL (zb S 17) 0 (((wkp S ro e (wk0 S) 1).2.1) 0)) 1 0) 2 0) 3 1) F 17 1 rfl rfl 0 (by decide) (by omega) (by decide) dX8_work_145 ?_
                                          rw [show ((vp_updL (vp_updL (vp_updL (vp_updL (zb S 17) 0 (((wkp S ro e (wk0 S) 1).2.1) 0)) 1 0) 2 0) 3 1) 0) = wkm S ro e (wk0 S) 0 from (by simp [vp_updL, hv0])]
                                          refine z_lconst (pc := 146) (v := 0) F dX8_work_146 (by decide) ?_
                                          refine z_l_eq (pc := 147) (tgt := 155) F dX8_work_147 dX8_work_148 (by decide) (fun c147 => ?_) (fun c147 => ?_)
                                          · refine z_iconst (pc := 155) (v := 0) F dX8_work_155 (by decide) ?_
                                            exact z_zret (pc := 156) F hR rfl dX8_work_156 (Nat.le_of_ble_eq_true rfl) (Nat.le_of_ble_eq_true rfl) ⟨by rw [show decide ((wkp S ro e (wk0 S) 4).1 = 0 ∧ ¬ wkm S ro e (wk0 S) 0 = 0) = false from by first | (simp [c137]; done) | (simp [c147]; done)]; rfl, by rw [wkmd, hv0, hv1, hv2, hv3]; try rfl⟩
                                          · refine z_iconst (pc := 151) (v := 1) F dX8_work_151 (by decide) ?_
                                            refine z_goto (pc := 152) (tgt := 156) F dX8_work_152 (by decide) ?_
                                            exact z_zret (pc := 156) F hR rfl dX8_work_156 (Nat.le_of_ble_eq_true rfl) (Nat.le_of_ble_eq_true rfl) ⟨by rw [show decide ((wkp S ro e (wk0 S) 4).1 = 0 ∧ ¬ wkm S ro e (wk0 S) 0 = 0) = true from by simp [c137, c147]]; rfl, by rw [wkmd, hv0, hv1, hv2, hv3]; try rfl⟩
                                      · rw [if_neg hz3] at ht
                                        subst ht
                                        have hv3 : wkm S ro e (wk0 S) 3 = (wkp S ro e (wk0 S) 4).2.1 0 := by rw [wkm, if_neg hz3]
                                        refine z_aload_n (pc := 78) F dX8_work_78 rfl 0 rfl ?_
                                        refine z_get (pc := 79) (v := .ref (r 17)) F iX8 0 rfl rfl 23 (by decide) tw_881 rfl dX8_work_79 ?_
                                        refine z_iload (pc := 82) F dX8_work_82 3 rfl ?_
                                        refine z_aload_n (pc := 84) F dX8_work_84 rfl 0 rfl ?_
                                        refine z_get (pc := 85) (v := .int (nI ([false]).length)) F iX8 0 rfl rfl 19 (by decide) tw_877 rfl dX8_work_85 ?_
                                        rw [show (nI ([false]).length) = nI 1 from rfl]
                                        refine z_if_le (pc := 88) (tgt := 98) F dX8_work_88 (by decide) (fun h => absurd h (by decide)) (fun _ => ?_)
                                        refine z_aload_n (pc := 91) F dX8_work_91 rfl 0 rfl ?_
                                        refine z_callVW (pc := 92) (q0 := 0) (ci := 8) (rest := [.int 3, .ref (r 17)]) F (c_X8_pop l E r (zM S (vp_updL (vp_updL (vp_updL (zb S 17) 0 (((wkp S ro e (wk0 S) 1).2.1) 0)) 1 0) 2 0)) 0 ((wkp S ro e (wk0 S) 4).1) ((wkp S ro e (wk0 S) 4).2.1) ((wkp S ro e (wk0 S) 4).2.2) (by decide)) 0 ww_Model_104 (by decide +kernel) rfl ⟨Nat.le_of_ble_eq_true rfl, Nat.le_of_ble_eq_true rfl⟩ ⟨Nat.le_of_ble_eq_true rfl, Nat.le_of_ble_eq_true rfl⟩ rfl rfl rfl rfl (Nat.le_of_ble_eq_true rfl) dX8_work_92 (fun v_ w1_ hp => ?_)
                                        obtain ⟨rfl, rfl⟩ := hp
                                        show Z X (0) (0) (mw E r (mwk S (nI 0) ((wkp S ro e (wk0 S) 4).1) ((wkp S ro e (wk0 S) 4).2.1) ((wkp S ro e (wk0 S) 4).2.2) (vp_updL (vp_updL (vp_updL (zb S 17) 0 (((wkp S ro e (wk0 S) 1).2.1) 0)) 1 0) 2 0))) [(0, .ref (r 0)), (1, .int (nI q)), (2, .int (nI ro)), (4, .int 3), (5, .int (nI (e 4)))] 95 [.long (((wkp S ro e (wk0 S) 4).2.1) 0), .int 3, .ref (r 17)]
                                        refine z_goto (pc := 95) (tgt := 114) F dX8_work_95 (by decide) ?_
                                        refine z_lastN (pc := 114) (ws' := mw E r (mwk S (nI 0) ((wkp S ro e (wk0 S) 4).1) ((wkp S ro e (wk0 S) 4).2.1) ((wkp S ro e (wk0 S) 4).2.2) (vp_updL (vp_updL (vp_updL (vp_updL (zb S 17) 0 (((wkp S ro e (wk0 S) 1).2.1) 0)) 1 0) 2 0) 3 (((wkp S ro e (wk0 S) 4).2.1) 0)))) (f := vp_updL (vp_updL (vp_updL (zb S 17) 0 (((wkp S ro e (wk0 S) 1).2.1) 0)) 1 0) 2 0) F 17 1 rfl rfl 3 (by decide) (by omega) (by decide) dX8_work_114 rfl ?_
                                        refine z_aload_n (pc := 115) F dX8_work_115 rfl 0 rfl ?_
                                        refine z_get (pc := 116) (v := .ref (r 10)) F iX8 0 rfl rfl 13 (by decide) tw_871 rfl dX8_work_116 ?_
                                        refine z_iconst (pc := 119) (v := 4) F dX8_work_119 (by decide) ?_
                                        refine z_iload_n (pc := 120) F dX8_work_120 rfl 1 rfl ?_
                                        refine z_imul (pc := 121) F dX8_work_121 ?_
                                        refine z_iload (pc := 122) F dX8_work_122 3 rfl ?_
                                        refine z_iadd (pc := 124) F dX8_work_124 ?_
                                        refine z_ialdN (pc := 125) (f := za S 10) F 10 0 rfl rfl (4 * q + 3) (ix4 q 3) (by omega) (by decide) dX8_work_125 ?_
                                        rw [show (za S 10 (4 * q + 3)) = nI (e 4) from hE3]
                                        refine z_istore_n (pc := 126) (lv' := [(0, .ref (r 0)), (1, .int (nI q)), (2, .int (nI ro)), (3, .int (nI (e 4))), (4, .int 3), (5, .int (nI (e 4)))]) F dX8_work_126 rfl (by decide) [1, 2, 3, 0, 4, 5] rfl ?_
                                        refine z_iinc (pc := 127) (v := 4) (lv' := [(0, .ref (r 0)), (1, .int (nI q)), (2, .int (nI ro)), (3, .int (nI (e 4))), (4, .int 4), (5, .int (nI (e 4)))]) F (j := 4) dX8_work_127 rfl (by decide) (by decide) [1, 2, 3, 4, 0, 5] rfl ?_
                                        refine z_goto (pc := 130) (tgt := 35) F dX8_work_130 (by decide) ?_
                                        refine z_iload (pc := 35) F dX8_work_35 4 rfl ?_
                                        refine z_iconst (pc := 37) (v := 4) F dX8_work_37 (by decide) ?_
                                        refine z_icmp_ge (pc := 38) (tgt := 133) F dX8_work_38 (by decide) (fun _ => ?_) (fun h => absurd h (by decide))
                                        refine z_aload_n (pc := 133) F dX8_work_133 rfl 0 rfl ?_
                                        refine z_get (pc := 134) (v := .int ((wkp S ro e (wk0 S) 4).1)) F iX8 0 rfl rfl 21 (by decide) tw_879 rfl dX8_work_134 ?_
                                        refine z_if_ne (pc := 137) (tgt := 155) F dX8_work_137 (by decide) (fun c137 => ?_) (fun c137 => ?_)
                                        · refine z_iconst (pc := 155) (v := 0) F dX8_work_155 (by decide) ?_
                                          exact z_zret (pc := 156) F hR rfl dX8_work_156 (Nat.le_of_ble_eq_true rfl) (Nat.le_of_ble_eq_true rfl) ⟨by rw [show decide ((wkp S ro e (wk0 S) 4).1 = 0 ∧ ¬ wkm S ro e (wk0 S) 0 = 0) = false from by first | (simp [c137]; done) | (simp [c147]; done)]; rfl, by rw [wkmd, hv0, hv1, hv2, hv3]; try rfl⟩
                                        · refine z_aload_n (pc := 140) F dX8_work_140 rfl 0 rfl ?_
                                          refine z_get (pc := 141) (v := .ref (r 17)) F iX8 0 rfl rfl 23 (by decide) tw_881 rfl dX8_work_141 ?_
                                          refine z_iconst (pc := 144) (v := 0) F dX8_work_144 (by decide) ?_
                                          refine z_laldN (pc := 145) (f := vp_updL (vp_updL (vp_updL (vp_updL (zb S 17) 0 (((wkp S ro e (wk0 S) 1).2.1) 0)) 1 0) 2 0) 3 (((wkp S ro e (wk0 S) 4).2.1) 0)) F 17 1 rfl rfl 0 (by decide) (by omega) (by decide) dX8_work_145 ?_
                                          rw [show ((vp_updL (vp_updL (vp_updL (vp_updL (zb S 17) 0 (((wkp S ro e (wk0 S) 1).2.1) 0)) 1 0) 2 0) 3 (((wkp S ro e (wk0 S) 4).2.1) 0)) 0) = wkm S ro e (wk0 S) 0 from (by simp [vp_updL, hv0])]
                                          refine z_lconst (pc := 146) (v := 0) F dX8_work_146 (by decide) ?_
                                          refine z_l_eq (pc := 147) (tgt := 155) F dX8_work_147 dX8_work_148 (by decide) (fun c147 => ?_) (fun c147 => ?_)
                                          · refine z_iconst (pc := 155) (v := 0) F dX8_work_155 (by decide) ?_
                                            exact z_zret (pc := 156) F hR rfl dX8_work_156 (Nat.le_of_ble_eq_true rfl) (Nat.le_of_ble_eq_true rfl) ⟨by rw [show decide ((wkp S ro e (wk0 S) 4).1 = 0 ∧ ¬ wkm S ro e (wk0 S) 0 = 0) = false from by first | (simp [c137]; done) | (simp [c147]; done)]; rfl, by rw [wkmd, hv0, hv1, hv2, hv3]; try rfl⟩
                                          · refine z_iconst (pc := 151) (v := 1) F dX8_work_151 (by decide) ?_
                                            refine z_goto (pc := 152) (tgt := 156) F dX8_work_152 (by decide) ?_
                                            exact z_zret (pc := 156) F hR rfl dX8_work_156 (Nat.le_of_ble_eq_true rfl) (Nat.le_of_ble_eq_true rfl) ⟨by rw [show decide ((wkp S ro e (wk0 S) 4).1 = 0 ∧ ¬ wkm S ro e (wk0 S) 0 = 0) = true from by simp [c137, c147]]; rfl, by rw [wkmd, hv0, hv1, hv2, hv3]; try rfl⟩
                                    · have hlt := ngI (by omega) (by omega) c62
                                      obtain ⟨m, hm⟩ : ∃ m, e 4 - kk = m + 1 := ⟨e 4 - kk - 1, by omega⟩
                                      rw [hm] at hty hrr
                                      obtain ⟨t', hw, hty⟩ := tyr_s hty
                                      rw [rrn_s hw] at hrr
                                      obtain ⟨hok', hlen'⟩ := rsOk_step ho hro (num := za S 12 kk) hok hw
                                      have hm' : e 4 - (kk + 1) = m := by omega
                                      refine z_aload_n (pc := 65) F dX8_work_65 rfl 0 rfl ?_
                                      refine z_iload_n (pc := 66) F dX8_work_66 rfl 2 rfl ?_
                                      refine z_iload (pc := 67) F dX8_work_67 4 rfl ?_
                                      refine z_callVW (pc := 69) (q0 := 0) (ci := 8) (rest := []) F (c_X8_act l E r (zM S (vp_updL (vp_updL (vp_updL (zb S 17) 0 (((wkp S ro e (wk0 S) 1).2.1) 0)) 1 0) 2 0)) p ro kk (cOp S kk) t t' (by omega) hro (hcd kk (by omega) (by omega)) hw (by omega) hok ho) 2 ww_Model_126 (by decide +kernel) rfl ⟨Nat.le_of_ble_eq_true rfl, Nat.le_of_ble_eq_true rfl⟩ ⟨Nat.le_of_ble_eq_true rfl, Nat.le_of_ble_eq_true rfl⟩ rfl rfl rfl rfl (Nat.le_of_ble_eq_true rfl) dX8_work_69 (fun v_ w1_ hp => ?_)
                                      obtain ⟨rfl, rfl⟩ := hp
                                      show Z X (0) (0) (mw E r (mwk S (nI t'.length) ((rst S ro (cOp S kk) (za S 12 kk) (t'.length - 1) p).1) ((rst S ro (cOp S kk) (za S 12 kk) (t'.length - 1) p).2.1) ((rst S ro (cOp S kk) (za S 12 kk) (t'.length - 1) p).2.2) (vp_updL (vp_updL (vp_updL (zb S 17) 0 (((wkp S ro e (wk0 S) 1).2.1) 0)) 1 0) 2 0))) [(0, .ref (r 0)), (1, .int (nI q)), (2, .int (nI ro)), (4, .int 3), (5, .int (nI kk))] 72 []
                                      refine z_iinc (pc := 72) (v := nI (kk + 1)) (lv' := [(0, .ref (r 0)), (1, .int (nI q)), (2, .int (nI ro)), (4, .int 3), (5, .int (nI (kk + 1)))]) F (j := 4) dX8_work_72 rfl (nI_1 _) (by decide) [1, 2, 3, 4, 0] rfl ?_
                                      refine z_goto (pc := 75) (tgt := 49) F dX8_work_75 (by decide) ?_
                                      exact ih49_3 (kk + 1) t' (rst S ro (cOp S kk) (za S 12 kk) (t'.length - 1) p) (by omega) (by omega) (by omega) (by rw [hm']; exact hty) (by rw [hm']; exact hrr) hok' (by omega)
                                refine z_locals (lv' := [(0, .ref (r 0)), (1, .int (nI q)), (2, .int (nI ro)), (4, .int 3), (5, .int (nI (e 3)))]) [0, 1, 2, 4, 5] rfl ?_
                                exact L49_3 _ (e 3) [] (wkp S ro e (wk0 S) 3) (Nat.lt_succ_self _) (Nat.le_refl _) m3 (hty4 3 (by decide)) rfl trivial (Nat.zero_le _)
                              · rw [if_neg hz2] at ht
                                subst ht
                                have hv2 : wkm S ro e (wk0 S) 2 = (wkp S ro e (wk0 S) 3).2.1 0 := by rw [wkm, if_neg hz2]
                                refine z_aload_n (pc := 78) F dX8_work_78 rfl 0 rfl ?_
                                refine z_get (pc := 79) (v := .ref (r 17)) F iX8 0 rfl rfl 23 (by decide) tw_881 rfl dX8_work_79 ?_
                                refine z_iload (pc := 82) F dX8_work_82 3 rfl ?_
                                refine z_aload_n (pc := 84) F dX8_work_84 rfl 0 rfl ?_
                                refine z_get (pc := 85) (v := .int (nI ([false]).length)) F iX8 0 rfl rfl 19 (by decide) tw_877 rfl dX8_work_85 ?_
                                rw [show (nI ([false]).length) = nI 1 from rfl]
                                refine z_if_le (pc := 88) (tgt := 98) F dX8_work_88 (by decide) (fun h => absurd h (by decide)) (fun _ => ?_)
                                refine z_aload_n (pc := 91) F dX8_work_91 rfl 0 rfl ?_
                                refine z_callVW (pc := 92) (q0 := 0) (ci := 8) (rest := [.int 2, .ref (r 17)]) F (c_X8_pop l E r (zM S (vp_updL (vp_updL (zb S 17) 0 (((wkp S ro e (wk0 S) 1).2.1) 0)) 1 0)) 0 ((wkp S ro e (wk0 S) 3).1) ((wkp S ro e (wk0 S) 3).2.1) ((wkp S ro e (wk0 S) 3).2.2) (by decide)) 0 ww_Model_104 (by decide +kernel) rfl ⟨Nat.le_of_ble_eq_true rfl, Nat.le_of_ble_eq_true rfl⟩ ⟨Nat.le_of_ble_eq_true rfl, Nat.le_of_ble_eq_true rfl⟩ rfl rfl rfl rfl (Nat.le_of_ble_eq_true rfl) dX8_work_92 (fun v_ w1_ hp => ?_)
                                obtain ⟨rfl, rfl⟩ := hp
                                show Z X (0) (0) (mw E r (mwk S (nI 0) ((wkp S ro e (wk0 S) 3).1) ((wkp S ro e (wk0 S) 3).2.1) ((wkp S ro e (wk0 S) 3).2.2) (vp_updL (vp_updL (zb S 17) 0 (((wkp S ro e (wk0 S) 1).2.1) 0)) 1 0))) [(0, .ref (r 0)), (1, .int (nI q)), (2, .int (nI ro)), (4, .int 2), (5, .int (nI (e 3)))] 95 [.long (((wkp S ro e (wk0 S) 3).2.1) 0), .int 2, .ref (r 17)]
                                refine z_goto (pc := 95) (tgt := 114) F dX8_work_95 (by decide) ?_
                                refine z_lastN (pc := 114) (ws' := mw E r (mwk S (nI 0) ((wkp S ro e (wk0 S) 3).1) ((wkp S ro e (wk0 S) 3).2.1) ((wkp S ro e (wk0 S) 3).2.2) (vp_updL (vp_updL (vp_updL (zb S 17) 0 (((wkp S ro e (wk0 S) 1).2.1) 0)) 1 0) 2 (((wkp S ro e (wk0 S) 3).2.1) 0)))) (f := vp_updL (vp_updL (zb S 17) 0 (((wkp S ro e (wk0 S) 1).2.1) 0)) 1 0) F 17 1 rfl rfl 2 (by decide) (by omega) (by decide) dX8_work_114 rfl ?_
                                refine z_aload_n (pc := 115) F dX8_work_115 rfl 0 rfl ?_
                                refine z_get (pc := 116) (v := .ref (r 10)) F iX8 0 rfl rfl 13 (by decide) tw_871 rfl dX8_work_116 ?_
                                refine z_iconst (pc := 119) (v := 4) F dX8_work_119 (by decide) ?_
                                refine z_iload_n (pc := 120) F dX8_work_120 rfl 1 rfl ?_
                                refine z_imul (pc := 121) F dX8_work_121 ?_
                                refine z_iload (pc := 122) F dX8_work_122 3 rfl ?_
                                refine z_iadd (pc := 124) F dX8_work_124 ?_
                                refine z_ialdN (pc := 125) (f := za S 10) F 10 0 rfl rfl (4 * q + 2) (ix4 q 2) (by omega) (by decide) dX8_work_125 ?_
                                rw [show (za S 10 (4 * q + 2)) = nI (e 3) from hE2]
                                refine z_istore_n (pc := 126) (lv' := [(0, .ref (r 0)), (1, .int (nI q)), (2, .int (nI ro)), (3, .int (nI (e 3))), (4, .int 2), (5, .int (nI (e 3)))]) F dX8_work_126 rfl (by decide) [1, 2, 3, 0, 4, 5] rfl ?_
                                refine z_iinc (pc := 127) (v := 3) (lv' := [(0, .ref (r 0)), (1, .int (nI q)), (2, .int (nI ro)), (3, .int (nI (e 3))), (4, .int 3), (5, .int (nI (e 3)))]) F (j := 4) dX8_work_127 rfl (by decide) (by decide) [1, 2, 3, 4, 0, 5] rfl ?_
                                refine z_goto (pc := 130) (tgt := 35) F dX8_work_130 (by decide) ?_
                                refine z_iload (pc := 35) F dX8_work_35 4 rfl ?_
                                refine z_iconst (pc := 37) (v := 4) F dX8_work_37 (by decide) ?_
                                refine z_icmp_ge (pc := 38) (tgt := 133) F dX8_work_38 (by decide) (fun h => absurd h (by decide)) (fun _ => ?_)
                                refine z_aload_n (pc := 41) F dX8_work_41 rfl 0 rfl ?_
                                refine z_iconst (pc := 42) (v := 0) F dX8_work_42 (by decide) ?_
                                refine z_put (pc := 43) (ws' := mw E r (mwk S 0 ((wkp S ro e (wk0 S) 3).1) ((wkp S ro e (wk0 S) 3).2.1) ((wkp S ro e (wk0 S) 3).2.2) (vp_updL (vp_updL (vp_updL (zb S 17) 0 (((wkp S ro e (wk0 S) 1).2.1) 0)) 1 0) 2 (((wkp S ro e (wk0 S) 3).2.1) 0)))) F iX8 tyX8 tyX8_ok nmX8 0 rfl rfl 19 (by decide) tw_877 rfl rfl rfl (Nat.le_of_ble_eq_true rfl) dX8_work_43 rfl ?_
                                refine z_iload_n (pc := 46) F dX8_work_46 rfl 3 rfl ?_
                                refine z_istore (pc := 47) (lv' := [(0, .ref (r 0)), (1, .int (nI q)), (2, .int (nI ro)), (3, .int (nI (e 3))), (4, .int 3), (5, .int (nI (e 3)))]) F dX8_work_47 (by decide) [1, 2, 3, 4, 5, 0] rfl ?_
                                have L49_3 : ∀ (N : Nat) (kk : Nat) (t : List Bool) (p : zP), (e 4 - kk) < N → (e 3 ≤ kk) → (kk ≤ e 4) → (tyr S kk (e 4 - kk) t = some (if e 4 = e 3 then [] else [false])) → (rrn S ro kk (e 4 - kk) t p = (wkp S ro e (wk0 S) 4)) → (rsOk p.2.1 t) → (t.length ≤ kk - e 3) → Z X (0) (0) (mw E r (mwk S (nI t.length) (p.1) (p.2.1) (p.2.2) (vp_updL (vp_updL (vp_updL (zb S 17) 0 (((wkp S ro e (wk0 S) 1).2.1) 0)) 1 0) 2 (((wkp S ro e (wk0 S) 3).2.1) 0)))) [(0, .ref (r 0)), (1, .int (nI q)), (2, .int (nI ro)), (4, .int 3), (5, .int (nI kk))] 49 [] := by
                                  intro N
                                  induction N with
                                  | zero => intro kk t p hN; exact absurd hN (Nat.not_lt_zero _)
                                  | succ N ih49_3 =>
                                    intro kk t p hN hk1 hk2 hty hrr hok hlen
                                    refine z_iload (pc := 49) F dX8_work_49 4 rfl ?_
                                    refine z_aload_n (pc := 51) F dX8_work_51 rfl 0 rfl ?_
                                    refine z_get (pc := 52) (v := .ref (r 10)) F iX8 0 rfl rfl 13 (by decide) tw_871 rfl dX8_work_52 ?_
                                    refine z_iconst (pc := 55) (v := 4) F dX8_work_55 (by decide) ?_
                                    refine z_iload_n (pc := 56) F dX8_work_56 rfl 1 rfl ?_
                                    refine z_imul (pc := 57) F dX8_work_57 ?_
                                    refine z_iload (pc := 58) F dX8_work_58 3 rfl ?_
                                    refine z_iadd (pc := 60) F dX8_work_60 ?_
                                    refine z_ialdN (pc := 61) (f := za S 10) F 10 0 rfl rfl (4 * q + 3) (ix4 q 3) (by omega) (by decide) dX8_work_61 ?_
                                    rw [show (za S 10 (4 * q + 3)) = nI (e 4) from hE3]
                                    refine z_icmp_ge (pc := 62) (tgt := 78) F dX8_work_62 (by decide) (fun c62 => ?_) (fun c62 => ?_)
                                    · have hkk : kk = e 4 := Nat.le_antisymm hk2 (gI (by omega) (by omega) c62)
                                      subst hkk
                                      rw [Nat.sub_self] at hty hrr
                                      have ht := Option.some.inj hty
                                      have hp : p = (wkp S ro e (wk0 S) 4) := hrr
                                      subst hp
                                      rcases Classical.em (e 4 = e 3) with hz3 | hz3
                                      · rw [if_pos hz3] at ht
                                        subst ht
                                        have hv3 : wkm S ro e (wk0 S) 3 = 1 := by rw [wkm, if_pos hz3]; rfl
                                        refine z_aload_n (pc := 78) F dX8_work_78 rfl 0 rfl ?_
                                        refine z_get (pc := 79) (v := .ref (r 17)) F iX8 0 rfl rfl 23 (by decide) tw_881 rfl dX8_work_79 ?_
                                        refine z_iload (pc := 82) F dX8_work_82 3 rfl ?_
                                        refine z_aload_n (pc := 84) F dX8_work_84 rfl 0 rfl ?_
                                        refine z_get (pc := 85) (v := .int (nI ([] : List Bool).length)) F iX8 0 rfl rfl 19 (by decide) tw_877 rfl dX8_work_85 ?_
                                        rw [show (nI ([] : List Bool).length) = nI 0 from rfl]
                                        refine z_if_le (pc := 88) (tgt := 98) F dX8_work_88 (by decide) (fun _ => ?_) (fun h => absurd h (by decide))
                                        refine z_iload (pc := 98) F dX8_work_98 3 rfl ?_
                                        refine z_if_eq (pc := 100) (tgt := 109) F dX8_work_100 (by decide) (fun h => absurd h (by decide)) (fun _ => ?_)
                                        refine z_iload (pc := 103) F dX8_work_103 3 rfl ?_
                                        refine z_iconst (pc := 105) (v := 3) F dX8_work_105 (by decide) ?_
                                        refine z_icmp_ne (pc := 106) (tgt := 113) F dX8_work_106 (by decide) (fun h => absurd h (by decide)) (fun _ => ?_)
                                        refine z_lconst (pc := 109) (v := 1) F dX8_work_109 (by decide) ?_
                                        refine z_goto (pc := 110) (tgt := 114) F dX8_work_110 (by decide) ?_
                                        refine z_lastN (pc := 114) (ws' := mw E r (mwk S (nI ([] : List Bool).length) ((wkp S ro e (wk0 S) 4).1) ((wkp S ro e (wk0 S) 4).2.1) ((wkp S ro e (wk0 S) 4).2.2) (vp_updL (vp_updL (vp_updL (vp_updL (zb S 17) 0 (((wkp S ro e (wk0 S) 1).2.1) 0)) 1 0) 2 (((wkp S ro e (wk0 S) 3).2.1) 0)) 3 1))) (f := vp_updL (vp_updL (vp_updL (zb S 17) 0 (((wkp S ro e (wk0 S) 1).2.1) 0)) 1 0) 2 (((wkp S ro e (wk0 S) 3).2.1) 0)) F 17 1 rfl rfl 3 (by decide) (by omega) (by decide) dX8_work_114 rfl ?_
                                        refine z_aload_n (pc := 115) F dX8_work_115 rfl 0 rfl ?_
                                        refine z_get (pc := 116) (v := .ref (r 10)) F iX8 0 rfl rfl 13 (by decide) tw_871 rfl dX8_work_116 ?_
                                        refine z_iconst (pc := 119) (v := 4) F dX8_work_119 (by decide) ?_
                                        refine z_iload_n (pc := 120) F dX8_work_120 rfl 1 rfl ?_
                                        refine z_imul (pc := 121) F dX8_work_121 ?_
                                        refine z_iload (pc := 122) F dX8_work_122 3 rfl ?_
                                        refine z_iadd (pc := 124) F dX8_work_124 ?_
                                        refine z_ialdN (pc := 125) (f := za S 10) F 10 0 rfl rfl (4 * q + 3) (ix4 q 3) (by omega) (by decide) dX8_work_125 ?_
                                        rw [show (za S 10 (4 * q + 3)) = nI (e 4) from hE3]
                                        refine z_istore_n (pc := 126) (lv' := [(0, .ref (r 0)), (1, .int (nI q)), (2, .int (nI ro)), (3, .int (nI (e 4))), (4, .int 3), (5, .int (nI (e 4)))]) F dX8_work_126 rfl (by decide) [1, 2, 3, 0, 4, 5] rfl ?_
                                        refine z_iinc (pc := 127) (v := 4) (lv' := [(0, .ref (r 0)), (1, .int (nI q)), (2, .int (nI ro)), (3, .int (nI (e 4))), (4, .int 4), (5, .int (nI (e 4)))]) F (j := 4) dX8_work_127 rfl (by decide) (by decide) [1, 2, 3, 4, 0, 5] rfl ?_
                                        refine z_goto (pc := 130) (tgt := 35) F dX8_work_130 (by decide) ?_
                                        refine z_iload (pc := 35) F dX8_work_35 4 rfl ?_
                                        refine z_iconst (pc := 37) (v := 4) F dX8_work_37 (by decide) ?_
                                        refine z_icmp_ge (pc := 38) (tgt := 133) F dX8_work_38 (by decide) (fun _ => ?_) (fun h => absurd h (by decide))
                                        refine z_aload_n (pc := 133) F dX8_work_133 rfl 0 rfl ?_
                                        refine z_get (pc := 134) (v := .int ((wkp S ro e (wk0 S) 4).1)) F iX8 0 rfl rfl 21 (by decide) tw_879 rfl dX8_work_134 ?_
                                        refine z_if_ne (pc := 137) (tgt := 155) F dX8_work_137 (by decide) (fun c137 => ?_) (fun c137 => ?_)
                                        · refine z_iconst (pc := 155) (v := 0) F dX8_work_155 (by decide) ?_
                                          exact z_zret (pc := 156) F hR rfl dX8_work_156 (Nat.le_of_ble_eq_true rfl) (Nat.le_of_ble_eq_true rfl) ⟨by rw [show decide ((wkp S ro e (wk0 S) 4).1 = 0 ∧ ¬ wkm S ro e (wk0 S) 0 = 0) = false from by first | (simp [c137]; done) | (simp [c147]; done)]; rfl, by rw [wkmd, hv0, hv1, hv2, hv3]; try rfl⟩
                                        · refine z_aload_n (pc := 140) F dX8_work_140 rfl 0 rfl ?_
                                          refine z_get (pc := 141) (v := .ref (r 17)) F iX8 0 rfl rfl 23 (by decide) tw_881 rfl dX8_work_141 ?_
                                          refine z_iconst (pc := 144) (v := 0) F dX8_work_144 (by decide) ?_
                                          refine z_laldN (pc := 145) (f := vp_updL (vp_updL (vp_updL (vp_updL (zb S 17) 0 (((wkp S ro e (wk0 S) 1).2.1) 0)) 1 0) 2 (((wkp S ro e (wk0 S) 3).2.1) 0)) 3 1) F 17 1 rfl rfl 0 (by decide) (by omega) (by decide) dX8_work_145 ?_
                                          rw [show ((vp_updL (vp_updL (vp_updL (vp_updL (zb S 17) 0 (((wkp S ro e (wk0 S) 1).2.1) 0)) 1 0) 2 (((wkp S ro e (wk0 S) 3).2.1) 0)) 3 1) 0) = wkm S ro e (wk0 S) 0 from (by simp [vp_updL, hv0])]
                                          refine z_lconst (pc := 146) (v := 0) F dX8_work_146 (by decide) ?_
                                          refine z_l_eq (pc := 147) (tgt := 155) F dX8_work_147 dX8_work_148 (by decide) (fun c147 => ?_) (fun c147 => ?_)
                                          · refine z_iconst (pc := 155) (v := 0) F dX8_work_155 (by decide) ?_
                                            exact z_zret (pc := 156) F hR rfl dX8_work_156 (Nat.le_of_ble_eq_true rfl) (Nat.le_of_ble_eq_true rfl) ⟨by rw [show decide ((wkp S ro e (wk0 S) 4).1 = 0 ∧ ¬ wkm S ro e (wk0 S) 0 = 0) = false from by first | (simp [c137]; done) | (simp [c147]; done)]; rfl, by rw [wkmd, hv0, hv1, hv2, hv3]; try rfl⟩
                                          · refine z_iconst (pc := 151) (v := 1) F dX8_work_151 (by decide) ?_
                                            refine z_goto (pc := 152) (tgt := 156) F dX8_work_152 (by decide) ?_
                                            exact z_zret (pc := 156) F hR rfl dX8_work_156 (Nat.le_of_ble_eq_true rfl) (Nat.le_of_ble_eq_true rfl) ⟨by rw [show decide ((wkp S ro e (wk0 S) 4).1 = 0 ∧ ¬ wkm S ro e (wk0 S) 0 = 0) = true from by simp [c137, c147]]; rfl, by rw [wkmd, hv0, hv1, hv2, hv3]; try rfl⟩
                                      · rw [if_neg hz3] at ht
                                        subst ht
                                        have hv3 : wkm S ro e (wk0 S) 3 = (wkp S ro e (wk0 S) 4).2.1 0 := by rw [wkm, if_neg hz3]
                                        refine z_aload_n (pc := 78) F dX8_work_78 rfl 0 rfl ?_
                                        refine z_get (pc := 79) (v := .ref (r 17)) F iX8 0 rfl rfl 23 (by decide) tw_881 rfl dX8_work_79 ?_
                                        refine z_iload (pc := 82) F dX8_work_82 3 rfl ?_
                                        refine z_aload_n (pc := 84) F dX8_work_84 rfl 0 rfl ?_
                                        refine z_get (pc := 85) (v := .int (nI ([false]).length)) F iX8 0 rfl rfl 19 (by decide) tw_877 rfl dX8_work_85 ?_
                                        rw [show (nI ([false]).length) = nI 1 from rfl]
                                        refine z_if_le (pc := 88) (tgt := 98) F dX8_work_88 (by decide) (fun h => absurd h (by decide)) (fun _ => ?_)
                                        refine z_aload_n (pc := 91) F dX8_work_91 rfl 0 rfl ?_
                                        refine z_callVW (pc := 92) (q0 := 0) (ci := 8) (rest := [.int 3, .ref (r 17)]) F (c_X8_pop l E r (zM S (vp_updL (vp_updL (vp_updL (zb S 17) 0 (((wkp S ro e (wk0 S) 1).2.1) 0)) 1 0) 2 (((wkp S ro e (wk0 S) 3).2.1) 0))) 0 ((wkp S ro e (wk0 S) 4).1) ((wkp S ro e (wk0 S) 4).2.1) ((wkp S ro e (wk0 S) 4).2.2) (by decide)) 0 ww_Model_104 (by decide +kernel) rfl ⟨Nat.le_of_ble_eq_true rfl, Nat.le_of_ble_eq_true rfl⟩ ⟨Nat.le_of_ble_eq_true rfl, Nat.le_of_ble_eq_true rfl⟩ rfl rfl rfl rfl (Nat.le_of_ble_eq_true rfl) dX8_work_92 (fun v_ w1_ hp => ?_)
                                        obtain ⟨rfl, rfl⟩ := hp
                                        show Z X (0) (0) (mw E r (mwk S (nI 0) ((wkp S ro e (wk0 S) 4).1) ((wkp S ro e (wk0 S) 4).2.1) ((wkp S ro e (wk0 S) 4).2.2) (vp_updL (vp_updL (vp_updL (zb S 17) 0 (((wkp S ro e (wk0 S) 1).2.1) 0)) 1 0) 2 (((wkp S ro e (wk0 S) 3).2.1) 0)))) [(0, .ref (r 0)), (1, .int (nI q)), (2, .int (nI ro)), (4, .int 3), (5, .int (nI (e 4)))] 95 [.long (((wkp S ro e (wk0 S) 4).2.1) 0), .int 3, .ref (r 17)]
                                        refine z_goto (pc := 95) (tgt := 114) F dX8_work_95 (by decide) ?_
                                        refine z_lastN (pc := 114) (ws' := mw E r (mwk S (nI 0) ((wkp S ro e (wk0 S) 4).1) ((wkp S ro e (wk0 S) 4).2.1) ((wkp S ro e (wk0 S) 4).2.2) (vp_updL (vp_updL (vp_updL (vp_updL (zb S 17) 0 (((wkp S ro e (wk0 S) 1).2.1) 0)) 1 0) 2 (((wkp S ro e (wk0 S) 3).2.1) 0)) 3 (((wkp S ro e (wk0 S) 4).2.1) 0)))) (f := vp_updL (vp_updL (vp_updL (zb S 17) 0 (((wkp S ro e (wk0 S) 1).2.1) 0)) 1 0) 2 (((wkp S ro e (wk0 S) 3).2.1) 0)) F 17 1 rfl rfl 3 (by decide) (by omega) (by decide) dX8_work_114 rfl ?_
                                        refine z_aload_n (pc := 115) F dX8_work_115 rfl 0 rfl ?_
                                        refine z_get (pc := 116) (v := .ref (r 10)) F iX8 0 rfl rfl 13 (by decide) tw_871 rfl dX8_work_116 ?_
                                        refine z_iconst (pc := 119) (v := 4) F dX8_work_119 (by decide) ?_
                                        refine z_iload_n (pc := 120) F dX8_work_120 rfl 1 rfl ?_
                                        refine z_imul (pc := 121) F dX8_work_121 ?_
                                        refine z_iload (pc := 122) F dX8_work_122 3 rfl ?_
                                        refine z_iadd (pc := 124) F dX8_work_124 ?_
                                        refine z_ialdN (pc := 125) (f := za S 10) F 10 0 rfl rfl (4 * q + 3) (ix4 q 3) (by omega) (by decide) dX8_work_125 ?_
                                        rw [show (za S 10 (4 * q + 3)) = nI (e 4) from hE3]
                                        refine z_istore_n (pc := 126) (lv' := [(0, .ref (r 0)), (1, .int (nI q)), (2, .int (nI ro)), (3, .int (nI (e 4))), (4, .int 3), (5, .int (nI (e 4)))]) F dX8_work_126 rfl (by decide) [1, 2, 3, 0, 4, 5] rfl ?_
                                        refine z_iinc (pc := 127) (v := 4) (lv' := [(0, .ref (r 0)), (1, .int (nI q)), (2, .int (nI ro)), (3, .int (nI (e 4))), (4, .int 4), (5, .int (nI (e 4)))]) F (j := 4) dX8_work_127 rfl (by decide) (by decide) [1, 2, 3, 4, 0, 5] rfl ?_
                                        refine z_goto (pc := 130) (tgt := 35) F dX8_work_130 (by decide) ?_
                                        refine z_iload (pc := 35) F dX8_work_35 4 rfl ?_
                                        refine z_iconst (pc := 37) (v := 4) F dX8_work_37 (by decide) ?_
                                        refine z_icmp_ge (pc := 38) (tgt := 133) F dX8_work_38 (by decide) (fun _ => ?_) (fun h => absurd h (by decide))
                                        refine z_aload_n (pc := 133) F dX8_work_133 rfl 0 rfl ?_
                                        refine z_get (pc := 134) (v := .int ((wkp S ro e (wk0 S) 4).1)) F iX8 0 rfl rfl 21 (by decide) tw_879 rfl dX8_work_134 ?_
                                        refine z_if_ne (pc := 137) (tgt := 155) F dX8_work_137 (by decide) (fun c137 => ?_) (fun c137 => ?_)
                                        · refine z_iconst (pc := 155) (v := 0) F dX8_work_155 (by decide) ?_
                                          exact z_zret (pc := 156) F hR rfl dX8_work_156 (Nat.le_of_ble_eq_true rfl) (Nat.le_of_ble_eq_true rfl) ⟨by rw [show decide ((wkp S ro e (wk0 S) 4).1 = 0 ∧ ¬ wkm S ro e (wk0 S) 0 = 0) = false from by first | (simp [c137]; done) | (simp [c147]; done)]; rfl, by rw [wkmd, hv0, hv1, hv2, hv3]; try rfl⟩
                                        · refine z_aload_n (pc := 140) F dX8_work_140 rfl 0 rfl ?_
                                          refine z_get (pc := 141) (v := .ref (r 17)) F iX8 0 rfl rfl 23 (by decide) tw_881 rfl dX8_work_141 ?_
                                          refine z_iconst (pc := 144) (v := 0) F dX8_work_144 (by decide) ?_
                                          refine z_laldN (pc := 145) (f := vp_updL (vp_updL (vp_updL (vp_updL (zb S 17) 0 (((wkp S ro e (wk0 S) 1).2.1) 0)) 1 0) 2 (((wkp S ro e (wk0 S) 3).2.1) 0)) 3 (((wkp S ro e (wk0 S) 4).2.1) 0)) F 17 1 rfl rfl 0 (by decide) (by omega) (by decide) dX8_work_145 ?_
                                          rw [show ((vp_updL (vp_updL (vp_updL (vp_updL (zb S 17) 0 (((wkp S ro e (wk0 S) 1).2.1) 0)) 1 0) 2 (((wkp S ro e (wk0 S) 3).2.1) 0)) 3 (((wkp S ro e (wk0 S) 4).2.1) 0)) 0) = wkm S ro e (wk0 S) 0 from (by simp [vp_updL, hv0])]
                                          refine z_lconst (pc := 146) (v := 0) F dX8_work_146 (by decide) ?_
                                          refine z_l_eq (pc := 147) (tgt := 155) F dX8_work_147 dX8_work_148 (by decide) (fun c147 => ?_) (fun c147 => ?_)
                                          · refine z_iconst (pc := 155) (v := 0) F dX8_work_155 (by decide) ?_
                                            exact z_zret (pc := 156) F hR rfl dX8_work_156 (Nat.le_of_ble_eq_true rfl) (Nat.le_of_ble_eq_true rfl) ⟨by rw [show decide ((wkp S ro e (wk0 S) 4).1 = 0 ∧ ¬ wkm S ro e (wk0 S) 0 = 0) = false from by first | (simp [c137]; done) | (simp [c147]; done)]; rfl, by rw [wkmd, hv0, hv1, hv2, hv3]; try rfl⟩
                                          · refine z_iconst (pc := 151) (v := 1) F dX8_work_151 (by decide) ?_
                                            refine z_goto (pc := 152) (tgt := 156) F dX8_work_152 (by decide) ?_
                                            exact z_zret (pc := 156) F hR rfl dX8_work_156 (Nat.le_of_ble_eq_true rfl) (Nat.le_of_ble_eq_true rfl) ⟨by rw [show decide ((wkp S ro e (wk0 S) 4).1 = 0 ∧ ¬ wkm S ro e (wk0 S) 0 = 0) = true from by simp [c137, c147]]; rfl, by rw [wkmd, hv0, hv1, hv2, hv3]; try rfl⟩
                                    · have hlt := ngI (by omega) (by omega) c62
                                      obtain ⟨m, hm⟩ : ∃ m, e 4 - kk = m + 1 := ⟨e 4 - kk - 1, by omega⟩
                                      rw [hm] at hty hrr
                                      obtain ⟨t', hw, hty⟩ := tyr_s hty
                                      rw [rrn_s hw] at hrr
                                      obtain ⟨hok', hlen'⟩ := rsOk_step ho hro (num := za S 12 kk) hok hw
                                      have hm' : e 4 - (kk + 1) = m := by omega
                                      refine z_aload_n (pc := 65) F dX8_work_65 rfl 0 rfl ?_
                                      refine z_iload_n (pc := 66) F dX8_work_66 rfl 2 rfl ?_
                                      refine z_iload (pc := 67) F dX8_work_67 4 rfl ?_
                                      refine z_callVW (pc := 69) (q0 := 0) (ci := 8) (rest := []) F (c_X8_act l E r (zM S (vp_updL (vp_updL (vp_updL (zb S 17) 0 (((wkp S ro e (wk0 S) 1).2.1) 0)) 1 0) 2 (((wkp S ro e (wk0 S) 3).2.1) 0))) p ro kk (cOp S kk) t t' (by omega) hro (hcd kk (by omega) (by omega)) hw (by omega) hok ho) 2 ww_Model_126 (by decide +kernel) rfl ⟨Nat.le_of_ble_eq_true rfl, Nat.le_of_ble_eq_true rfl⟩ ⟨Nat.le_of_ble_eq_true rfl, Nat.le_of_ble_eq_true rfl⟩ rfl rfl rfl rfl (Nat.le_of_ble_eq_true rfl) dX8_work_69 (fun v_ w1_ hp => ?_)
                                      obtain ⟨rfl, rfl⟩ := hp
                                      show Z X (0) (0) (mw E r (mwk S (nI t'.length) ((rst S ro (cOp S kk) (za S 12 kk) (t'.length - 1) p).1) ((rst S ro (cOp S kk) (za S 12 kk) (t'.length - 1) p).2.1) ((rst S ro (cOp S kk) (za S 12 kk) (t'.length - 1) p).2.2) (vp_updL (vp_updL (vp_updL (zb S 17) 0 (((wkp S ro e (wk0 S) 1).2.1) 0)) 1 0) 2 (((wkp S ro e (wk0 S) 3).2.1) 0)))) [(0, .ref (r 0)), (1, .int (nI q)), (2, .int (nI ro)), (4, .int 3), (5, .int (nI kk))] 72 []
                                      refine z_iinc (pc := 72) (v := nI (kk + 1)) (lv' := [(0, .ref (r 0)), (1, .int (nI q)), (2, .int (nI ro)), (4, .int 3), (5, .int (nI (kk + 1)))]) F (j := 4) dX8_work_72 rfl (nI_1 _) (by decide) [1, 2, 3, 4, 0] rfl ?_
                                      refine z_goto (pc := 75) (tgt := 49) F dX8_work_75 (by decide) ?_
                                      exact ih49_3 (kk + 1) t' (rst S ro (cOp S kk) (za S 12 kk) (t'.length - 1) p) (by omega) (by omega) (by omega) (by rw [hm']; exact hty) (by rw [hm']; exact hrr) hok' (by omega)
                                refine z_locals (lv' := [(0, .ref (r 0)), (1, .int (nI q)), (2, .int (nI ro)), (4, .int 3), (5, .int (nI (e 3)))]) [0, 1, 2, 4, 5] rfl ?_
                                exact L49_3 _ (e 3) [] (wkp S ro e (wk0 S) 3) (Nat.lt_succ_self _) (Nat.le_refl _) m3 (hty4 3 (by decide)) rfl trivial (Nat.zero_le _)
                            · have hlt := ngI (by omega) (by omega) c62
                              obtain ⟨m, hm⟩ : ∃ m, e 3 - kk = m + 1 := ⟨e 3 - kk - 1, by omega⟩
                              rw [hm] at hty hrr
                              obtain ⟨t', hw, hty⟩ := tyr_s hty
                              rw [rrn_s hw] at hrr
                              obtain ⟨hok', hlen'⟩ := rsOk_step ho hro (num := za S 12 kk) hok hw
                              have hm' : e 3 - (kk + 1) = m := by omega
                              refine z_aload_n (pc := 65) F dX8_work_65 rfl 0 rfl ?_
                              refine z_iload_n (pc := 66) F dX8_work_66 rfl 2 rfl ?_
                              refine z_iload (pc := 67) F dX8_work_67 4 rfl ?_
                              refine z_callVW (pc := 69) (q0 := 0) (ci := 8) (rest := []) F (c_X8_act l E r (zM S (vp_updL (vp_updL (zb S 17) 0 (((wkp S ro e (wk0 S) 1).2.1) 0)) 1 0)) p ro kk (cOp S kk) t t' (by omega) hro (hcd kk (by omega) (by omega)) hw (by omega) hok ho) 2 ww_Model_126 (by decide +kernel) rfl ⟨Nat.le_of_ble_eq_true rfl, Nat.le_of_ble_eq_true rfl⟩ ⟨Nat.le_of_ble_eq_true rfl, Nat.le_of_ble_eq_true rfl⟩ rfl rfl rfl rfl (Nat.le_of_ble_eq_true rfl) dX8_work_69 (fun v_ w1_ hp => ?_)
                              obtain ⟨rfl, rfl⟩ := hp
                              show Z X (0) (0) (mw E r (mwk S (nI t'.length) ((rst S ro (cOp S kk) (za S 12 kk) (t'.length - 1) p).1) ((rst S ro (cOp S kk) (za S 12 kk) (t'.length - 1) p).2.1) ((rst S ro (cOp S kk) (za S 12 kk) (t'.length - 1) p).2.2) (vp_updL (vp_updL (zb S 17) 0 (((wkp S ro e (wk0 S) 1).2.1) 0)) 1 0))) [(0, .ref (r 0)), (1, .int (nI q)), (2, .int (nI ro)), (4, .int 2), (5, .int (nI kk))] 72 []
                              refine z_iinc (pc := 72) (v := nI (kk + 1)) (lv' := [(0, .ref (r 0)), (1, .int (nI q)), (2, .int (nI ro)), (4, .int 2), (5, .int (nI (kk + 1)))]) F (j := 4) dX8_work_72 rfl (nI_1 _) (by decide) [1, 2, 3, 4, 0] rfl ?_
                              refine z_goto (pc := 75) (tgt := 49) F dX8_work_75 (by decide) ?_
                              exact ih49_2 (kk + 1) t' (rst S ro (cOp S kk) (za S 12 kk) (t'.length - 1) p) (by omega) (by omega) (by omega) (by rw [hm']; exact hty) (by rw [hm']; exact hrr) hok' (by omega)
                        refine z_locals (lv' := [(0, .ref (r 0)), (1, .int (nI q)), (2, .int (nI ro)), (4, .int 2), (5, .int (nI (e 2)))]) [0, 1, 2, 4, 5] rfl ?_
                        exact L49_2 _ (e 2) [] (wkp S ro e (wk0 S) 2) (Nat.lt_succ_self _) (Nat.le_refl _) m2 (hty4 2 (by decide)) rfl trivial (Nat.zero_le _)
                      · rw [if_neg hz1] at ht
                        subst ht
                        have hv1 : wkm S ro e (wk0 S) 1 = (wkp S ro e (wk0 S) 2).2.1 0 := by rw [wkm, if_neg hz1]
                        refine z_aload_n (pc := 78) F dX8_work_78 rfl 0 rfl ?_
                        refine z_get (pc := 79) (v := .ref (r 17)) F iX8 0 rfl rfl 23 (by decide) tw_881 rfl dX8_work_79 ?_
                        refine z_iload (pc := 82) F dX8_work_82 3 rfl ?_
                        refine z_aload_n (pc := 84) F dX8_work_84 rfl 0 rfl ?_
                        refine z_get (pc := 85) (v := .int (nI ([false]).length)) F iX8 0 rfl rfl 19 (by decide) tw_877 rfl dX8_work_85 ?_
                        rw [show (nI ([false]).length) = nI 1 from rfl]
                        refine z_if_le (pc := 88) (tgt := 98) F dX8_work_88 (by decide) (fun h => absurd h (by decide)) (fun _ => ?_)
                        refine z_aload_n (pc := 91) F dX8_work_91 rfl 0 rfl ?_
                        refine z_callVW (pc := 92) (q0 := 0) (ci := 8) (rest := [.int 1, .ref (r 17)]) F (c_X8_pop l E r (zM S (vp_updL (zb S 17) 0 (((wkp S ro e (wk0 S) 1).2.1) 0))) 0 ((wkp S ro e (wk0 S) 2).1) ((wkp S ro e (wk0 S) 2).2.1) ((wkp S ro e (wk0 S) 2).2.2) (by decide)) 0 ww_Model_104 (by decide +kernel) rfl ⟨Nat.le_of_ble_eq_true rfl, Nat.le_of_ble_eq_true rfl⟩ ⟨Nat.le_of_ble_eq_true rfl, Nat.le_of_ble_eq_true rfl⟩ rfl rfl rfl rfl (Nat.le_of_ble_eq_true rfl) dX8_work_92 (fun v_ w1_ hp => ?_)
                        obtain ⟨rfl, rfl⟩ := hp
                        show Z X (0) (0) (mw E r (mwk S (nI 0) ((wkp S ro e (wk0 S) 2).1) ((wkp S ro e (wk0 S) 2).2.1) ((wkp S ro e (wk0 S) 2).2.2) (vp_updL (zb S 17) 0 (((wkp S ro e (wk0 S) 1).2.1) 0)))) [(0, .ref (r 0)), (1, .int (nI q)), (2, .int (nI ro)), (4, .int 1), (5, .int (nI (e 2)))] 95 [.long (((wkp S ro e (wk0 S) 2).2.1) 0), .int 1, .ref (r 17)]
                        refine z_goto (pc := 95) (tgt := 114) F dX8_work_95 (by decide) ?_
                        refine z_lastN (pc := 114) (ws' := mw E r (mwk S (nI 0) ((wkp S ro e (wk0 S) 2).1) ((wkp S ro e (wk0 S) 2).2.1) ((wkp S ro e (wk0 S) 2).2.2) (vp_updL (vp_updL (zb S 17) 0 (((wkp S ro e (wk0 S) 1).2.1) 0)) 1 (((wkp S ro e (wk0 S) 2).2.1) 0)))) (f := vp_updL (zb S 17) 0 (((wkp S ro e (wk0 S) 1).2.1) 0)) F 17 1 rfl rfl 1 (by decide) (by omega) (by decide) dX8_work_114 rfl ?_
                        refine z_aload_n (pc := 115) F dX8_work_115 rfl 0 rfl ?_
                        refine z_get (pc := 116) (v := .ref (r 10)) F iX8 0 rfl rfl 13 (by decide) tw_871 rfl dX8_work_116 ?_
                        refine z_iconst (pc := 119) (v := 4) F dX8_work_119 (by decide) ?_
                        refine z_iload_n (pc := 120) F dX8_work_120 rfl 1 rfl ?_
                        refine z_imul (pc := 121) F dX8_work_121 ?_
                        refine z_iload (pc := 122) F dX8_work_122 3 rfl ?_
                        refine z_iadd (pc := 124) F dX8_work_124 ?_
                        refine z_ialdN (pc := 125) (f := za S 10) F 10 0 rfl rfl (4 * q + 1) (ix4 q 1) (by omega) (by decide) dX8_work_125 ?_
                        rw [show (za S 10 (4 * q + 1)) = nI (e 2) from hE1]
                        refine z_istore_n (pc := 126) (lv' := [(0, .ref (r 0)), (1, .int (nI q)), (2, .int (nI ro)), (3, .int (nI (e 2))), (4, .int 1), (5, .int (nI (e 2)))]) F dX8_work_126 rfl (by decide) [1, 2, 3, 0, 4, 5] rfl ?_
                        refine z_iinc (pc := 127) (v := 2) (lv' := [(0, .ref (r 0)), (1, .int (nI q)), (2, .int (nI ro)), (3, .int (nI (e 2))), (4, .int 2), (5, .int (nI (e 2)))]) F (j := 4) dX8_work_127 rfl (by decide) (by decide) [1, 2, 3, 4, 0, 5] rfl ?_
                        refine z_goto (pc := 130) (tgt := 35) F dX8_work_130 (by decide) ?_
                        refine z_iload (pc := 35) F dX8_work_35 4 rfl ?_
                        refine z_iconst (pc := 37) (v := 4) F dX8_work_37 (by decide) ?_
                        refine z_icmp_ge (pc := 38) (tgt := 133) F dX8_work_38 (by decide) (fun h => absurd h (by decide)) (fun _ => ?_)
                        refine z_aload_n (pc := 41) F dX8_work_41 rfl 0 rfl ?_
                        refine z_iconst (pc := 42) (v := 0) F dX8_work_42 (by decide) ?_
                        refine z_put (pc := 43) (ws' := mw E r (mwk S 0 ((wkp S ro e (wk0 S) 2).1) ((wkp S ro e (wk0 S) 2).2.1) ((wkp S ro e (wk0 S) 2).2.2) (vp_updL (vp_updL (zb S 17) 0 (((wkp S ro e (wk0 S) 1).2.1) 0)) 1 (((wkp S ro e (wk0 S) 2).2.1) 0)))) F iX8 tyX8 tyX8_ok nmX8 0 rfl rfl 19 (by decide) tw_877 rfl rfl rfl (Nat.le_of_ble_eq_true rfl) dX8_work_43 rfl ?_
                        refine z_iload_n (pc := 46) F dX8_work_46 rfl 3 rfl ?_
                        refine z_istore (pc := 47) (lv' := [(0, .ref (r 0)), (1, .int (nI q)), (2, .int (nI ro)), (3, .int (nI (e 2))), (4, .int 2), (5, .int (nI (e 2)))]) F dX8_work_47 (by decide) [1, 2, 3, 4, 5, 0] rfl ?_
                        have L49_2 : ∀ (N : Nat) (kk : Nat) (t : List Bool) (p : zP), (e 3 - kk) < N → (e 2 ≤ kk) → (kk ≤ e 3) → (tyr S kk (e 3 - kk) t = some (if e 3 = e 2 then [] else [false])) → (rrn S ro kk (e 3 - kk) t p = (wkp S ro e (wk0 S) 3)) → (rsOk p.2.1 t) → (t.length ≤ kk - e 2) → Z X (0) (0) (mw E r (mwk S (nI t.length) (p.1) (p.2.1) (p.2.2) (vp_updL (vp_updL (zb S 17) 0 (((wkp S ro e (wk0 S) 1).2.1) 0)) 1 (((wkp S ro e (wk0 S) 2).2.1) 0)))) [(0, .ref (r 0)), (1, .int (nI q)), (2, .int (nI ro)), (4, .int 2), (5, .int (nI kk))] 49 [] := by
                          intro N
                          induction N with
                          | zero => intro kk t p hN; exact absurd hN (Nat.not_lt_zero _)
                          | succ N ih49_2 =>
                            intro kk t p hN hk1 hk2 hty hrr hok hlen
                            refine z_iload (pc := 49) F dX8_work_49 4 rfl ?_
                            refine z_aload_n (pc := 51) F dX8_work_51 rfl 0 rfl ?_
                            refine z_get (pc := 52) (v := .ref (r 10)) F iX8 0 rfl rfl 13 (by decide) tw_871 rfl dX8_work_52 ?_
                            refine z_iconst (pc := 55) (v := 4) F dX8_work_55 (by decide) ?_
                            refine z_iload_n (pc := 56) F dX8_work_56 rfl 1 rfl ?_
                            refine z_imul (pc := 57) F dX8_work_57 ?_
                            refine z_iload (pc := 58) F dX8_work_58 3 rfl ?_
                            refine z_iadd (pc := 60) F dX8_work_60 ?_
                            refine z_ialdN (pc := 61) (f := za S 10) F 10 0 rfl rfl (4 * q + 2) (ix4 q 2) (by omega) (by decide) dX8_work_61 ?_
                            rw [show (za S 10 (4 * q + 2)) = nI (e 3) from hE2]
                            refine z_icmp_ge (pc := 62) (tgt := 78) F dX8_work_62 (by decide) (fun c62 => ?_) (fun c62 => ?_)
                            · have hkk : kk = e 3 := Nat.le_antisymm hk2 (gI (by omega) (by omega) c62)
                              subst hkk
                              rw [Nat.sub_self] at hty hrr
                              have ht := Option.some.inj hty
                              have hp : p = (wkp S ro e (wk0 S) 3) := hrr
                              subst hp
                              rcases Classical.em (e 3 = e 2) with hz2 | hz2
                              · rw [if_pos hz2] at ht
                                subst ht
                                have hv2 : wkm S ro e (wk0 S) 2 = 0 := by rw [wkm, if_pos hz2]; rfl
                                refine z_aload_n (pc := 78) F dX8_work_78 rfl 0 rfl ?_
                                refine z_get (pc := 79) (v := .ref (r 17)) F iX8 0 rfl rfl 23 (by decide) tw_881 rfl dX8_work_79 ?_
                                refine z_iload (pc := 82) F dX8_work_82 3 rfl ?_
                                refine z_aload_n (pc := 84) F dX8_work_84 rfl 0 rfl ?_
                                refine z_get (pc := 85) (v := .int (nI ([] : List Bool).length)) F iX8 0 rfl rfl 19 (by decide) tw_877 rfl dX8_work_85 ?_
                                rw [show (nI ([] : List Bool).length) = nI 0 from rfl]
                                refine z_if_le (pc := 88) (tgt := 98) F dX8_work_88 (by decide) (fun _ => ?_) (fun h => absurd h (by decide))
                                refine z_iload (pc := 98) F dX8_work_98 3 rfl ?_
                                refine z_if_eq (pc := 100) (tgt := 109) F dX8_work_100 (by decide) (fun h => absurd h (by decide)) (fun _ => ?_)
                                refine z_iload (pc := 103) F dX8_work_103 3 rfl ?_
                                refine z_iconst (pc := 105) (v := 3) F dX8_work_105 (by decide) ?_
                                refine z_icmp_ne (pc := 106) (tgt := 113) F dX8_work_106 (by decide) (fun _ => ?_) (fun h => absurd h (by decide))
                                refine z_lconst (pc := 113) (v := 0) F dX8_work_113 (by decide) ?_
                                refine z_lastN (pc := 114) (ws' := mw E r (mwk S (nI ([] : List Bool).length) ((wkp S ro e (wk0 S) 3).1) ((wkp S ro e (wk0 S) 3).2.1) ((wkp S ro e (wk0 S) 3).2.2) (vp_updL (vp_updL (vp_updL (zb S 17) 0 (((wkp S ro e (wk0 S) 1).2.1) 0)) 1 (((wkp S ro e (wk0 S) 2).2.1) 0)) 2 0))) (f := vp_updL (vp_updL (zb S 17) 0 (((wkp S ro e (wk0 S) 1).2.1) 0)) 1 (((wkp S ro e (wk0 S) 2).2.1) 0)) F 17 1 rfl rfl 2 (by decide) (by omega) (by decide) dX8_work_114 rfl ?_
                                refine z_aload_n (pc := 115) F dX8_work_115 rfl 0 rfl ?_
                                refine z_get (pc := 116) (v := .ref (r 10)) F iX8 0 rfl rfl 13 (by decide) tw_871 rfl dX8_work_116 ?_
                                refine z_iconst (pc := 119) (v := 4) F dX8_work_119 (by decide) ?_
                                refine z_iload_n (pc := 120) F dX8_work_120 rfl 1 rfl ?_
                                refine z_imul (pc := 121) F dX8_work_121 ?_
                                refine z_iload (pc := 122) F dX8_work_122 3 rfl ?_
                                refine z_iadd (pc := 124) F dX8_work_124 ?_
                                refine z_ialdN (pc := 125) (f := za S 10) F 10 0 rfl rfl (4 * q + 2) (ix4 q 2) (by omega) (by decide) dX8_work_125 ?_
                                rw [show (za S 10 (4 * q + 2)) = nI (e 3) from hE2]
                                refine z_istore_n (pc := 126) (lv' := [(0, .ref (r 0)), (1, .int (nI q)), (2, .int (nI ro)), (3, .int (nI (e 3))), (4, .int 2), (5, .int (nI (e 3)))]) F dX8_work_126 rfl (by decide) [1, 2, 3, 0, 4, 5] rfl ?_
                                refine z_iinc (pc := 127) (v := 3) (lv' := [(0, .ref (r 0)), (1, .int (nI q)), (2, .int (nI ro)), (3, .int (nI (e 3))), (4, .int 3), (5, .int (nI (e 3)))]) F (j := 4) dX8_work_127 rfl (by decide) (by decide) [1, 2, 3, 4, 0, 5] rfl ?_
                                refine z_goto (pc := 130) (tgt := 35) F dX8_work_130 (by decide) ?_
                                refine z_iload (pc := 35) F dX8_work_35 4 rfl ?_
                                refine z_iconst (pc := 37) (v := 4) F dX8_work_37 (by decide) ?_
                                refine z_icmp_ge (pc := 38) (tgt := 133) F dX8_work_38 (by decide) (fun h => absurd h (by decide)) (fun _ => ?_)
                                refine z_aload_n (pc := 41) F dX8_work_41 rfl 0 rfl ?_
                                refine z_iconst (pc := 42) (v := 0) F dX8_work_42 (by decide) ?_
                                refine z_put (pc := 43) (ws' := mw E r (mwk S 0 ((wkp S ro e (wk0 S) 3).1) ((wkp S ro e (wk0 S) 3).2.1) ((wkp S ro e (wk0 S) 3).2.2) (vp_updL (vp_updL (vp_updL (zb S 17) 0 (((wkp S ro e (wk0 S) 1).2.1) 0)) 1 (((wkp S ro e (wk0 S) 2).2.1) 0)) 2 0))) F iX8 tyX8 tyX8_ok nmX8 0 rfl rfl 19 (by decide) tw_877 rfl rfl rfl (Nat.le_of_ble_eq_true rfl) dX8_work_43 rfl ?_
                                refine z_iload_n (pc := 46) F dX8_work_46 rfl 3 rfl ?_
                                refine z_istore (pc := 47) (lv' := [(0, .ref (r 0)), (1, .int (nI q)), (2, .int (nI ro)), (3, .int (nI (e 3))), (4, .int 3), (5, .int (nI (e 3)))]) F dX8_work_47 (by decide) [1, 2, 3, 4, 5, 0] rfl ?_
                                have L49_3 : ∀ (N : Nat) (kk : Nat) (t : List Bool) (p : zP), (e 4 - kk) < N → (e 3 ≤ kk) → (kk ≤ e 4) → (tyr S kk (e 4 - kk) t = some (if e 4 = e 3 then [] else [false])) → (rrn S ro kk (e 4 - kk) t p = (wkp S ro e (wk0 S) 4)) → (rsOk p.2.1 t) → (t.length ≤ kk - e 3) → Z X (0) (0) (mw E r (mwk S (nI t.length) (p.1) (p.2.1) (p.2.2) (vp_updL (vp_updL (vp_updL (zb S 17) 0 (((wkp S ro e (wk0 S) 1).2.1) 0)) 1 (((wkp S ro e (wk0 S) 2).2.1) 0)) 2 0))) [(0, .ref (r 0)), (1, .int (nI q)), (2, .int (nI ro)), (4, .int 3), (5, .int (nI kk))] 49 [] := by
                                  intro N
                                  induction N with
                                  | zero => intro kk t p hN; exact absurd hN (Nat.not_lt_zero _)
                                  | succ N ih49_3 =>
                                    intro kk t p hN hk1 hk2 hty hrr hok hlen
                                    refine z_iload (pc := 49) F dX8_work_49 4 rfl ?_
                                    refine z_aload_n (pc := 51) F dX8_work_51 rfl 0 rfl ?_
                                    refine z_get (pc := 52) (v := .ref (r 10)) F iX8 0 rfl rfl 13 (by decide) tw_871 rfl dX8_work_52 ?_
                                    refine z_iconst (pc := 55) (v := 4) F dX8_work_55 (by decide) ?_
                                    refine z_iload_n (pc := 56) F dX8_work_56 rfl 1 rfl ?_
                                    refine z_imul (pc := 57) F dX8_work_57 ?_
                                    refine z_iload (pc := 58) F dX8_work_58 3 rfl ?_
                                    refine z_iadd (pc := 60) F dX8_work_60 ?_
                                    refine z_ialdN (pc := 61) (f := za S 10) F 10 0 rfl rfl (4 * q + 3) (ix4 q 3) (by omega) (by decide) dX8_work_61 ?_
                                    rw [show (za S 10 (4 * q + 3)) = nI (e 4) from hE3]
                                    refine z_icmp_ge (pc := 62) (tgt := 78) F dX8_work_62 (by decide) (fun c62 => ?_) (fun c62 => ?_)
                                    · have hkk : kk = e 4 := Nat.le_antisymm hk2 (gI (by omega) (by omega) c62)
                                      subst hkk
                                      rw [Nat.sub_self] at hty hrr
                                      have ht := Option.some.inj hty
                                      have hp : p = (wkp S ro e (wk0 S) 4) := hrr
                                      subst hp
                                      rcases Classical.em (e 4 = e 3) with hz3 | hz3
                                      · rw [if_pos hz3] at ht
                                        subst ht
                                        have hv3 : wkm S ro e (wk0 S) 3 = 1 := by rw [wkm, if_pos hz3]; rfl
                                        refine z_aload_n (pc := 78) F dX8_work_78 rfl 0 rfl ?_
                                        refine z_get (pc := 79) (v := .ref (r 17)) F iX8 0 rfl rfl 23 (by decide) tw_881 rfl dX8_work_79 ?_
                                        refine z_iload (pc := 82) F dX8_work_82 3 rfl ?_
                                        refine z_aload_n (pc := 84) F dX8_work_84 rfl 0 rfl ?_
                                        refine z_get (pc := 85) (v := .int (nI ([] : List Bool).length)) F iX8 0 rfl rfl 19 (by decide) tw_877 rfl dX8_work_85 ?_
                                        rw [show (nI ([] : List Bool).length) = nI 0 from rfl]
                                        refine z_if_le (pc := 88) (tgt := 98) F dX8_work_88 (by decide) (fun _ => ?_) (fun h => absurd h (by decide))
                                        refine z_iload (pc := 98) F dX8_work_98 3 rfl ?_
                                        refine z_if_eq (pc := 100) (tgt := 109) F dX8_work_100 (by decide) (fun h => absurd h (by decide)) (fun _ => ?_)
                                        refine z_iload (pc := 103) F dX8_work_103 3 rfl ?_
                                        refine z_iconst (pc := 105) (v := 3) F dX8_work_105 (by decide) ?_
                                        refine z_icmp_ne (pc := 106) (tgt := 113) F dX8_work_106 (by decide) (fun h => absurd h (by decide)) (fun _ => ?_)
                                        refine z_lconst (pc := 109) (v := 1) F dX8_work_109 (by decide) ?_
                                        refine z_goto (pc := 110) (tgt := 114) F dX8_work_110 (by decide) ?_
                                        refine z_lastN (pc := 114) (ws' := mw E r (mwk S (nI ([] : List Bool).length) ((wkp S ro e (wk0 S) 4).1) ((wkp S ro e (wk0 S) 4).2.1) ((wkp S ro e (wk0 S) 4).2.2) (vp_updL (vp_updL (vp_updL (vp_updL (zb S 17) 0 (((wkp S ro e (wk0 S) 1).2.1) 0)) 1 (((wkp S ro e (wk0 S) 2).2.1) 0)) 2 0) 3 1))) (f := vp_updL (vp_updL (vp_updL (zb S 17) 0 (((wkp S ro e (wk0 S) 1).2.1) 0)) 1 (((wkp S ro e (wk0 S) 2).2.1) 0)) 2 0) F 17 1 rfl rfl 3 (by decide) (by omega) (by decide) dX8_work_114 rfl ?_
                                        refine z_aload_n (pc := 115) F dX8_work_115 rfl 0 rfl ?_
                                        refine z_get (pc := 116) (v := .ref (r 10)) F iX8 0 rfl rfl 13 (by decide) tw_871 rfl dX8_work_116 ?_
                                        refine z_iconst (pc := 119) (v := 4) F dX8_work_119 (by decide) ?_
                                        refine z_iload_n (pc := 120) F dX8_work_120 rfl 1 rfl ?_
                                        refine z_imul (pc := 121) F dX8_work_121 ?_
                                        refine z_iload (pc := 122) F dX8_work_122 3 rfl ?_
                                        refine z_iadd (pc := 124) F dX8_work_124 ?_
                                        refine z_ialdN (pc := 125) (f := za S 10) F 10 0 rfl rfl (4 * q + 3) (ix4 q 3) (by omega) (by decide) dX8_work_125 ?_
                                        rw [show (za S 10 (4 * q + 3)) = nI (e 4) from hE3]
                                        refine z_istore_n (pc := 126) (lv' := [(0, .ref (r 0)), (1, .int (nI q)), (2, .int (nI ro)), (3, .int (nI (e 4))), (4, .int 3), (5, .int (nI (e 4)))]) F dX8_work_126 rfl (by decide) [1, 2, 3, 0, 4, 5] rfl ?_
                                        refine z_iinc (pc := 127) (v := 4) (lv' := [(0, .ref (r 0)), (1, .int (nI q)), (2, .int (nI ro)), (3, .int (nI (e 4))), (4, .int 4), (5, .int (nI (e 4)))]) F (j := 4) dX8_work_127 rfl (by decide) (by decide) [1, 2, 3, 4, 0, 5] rfl ?_
                                        refine z_goto (pc := 130) (tgt := 35) F dX8_work_130 (by decide) ?_
                                        refine z_iload (pc := 35) F dX8_work_35 4 rfl ?_
                                        refine z_iconst (pc := 37) (v := 4) F dX8_work_37 (by decide) ?_
                                        refine z_icmp_ge (pc := 38) (tgt := 133) F dX8_work_38 (by decide) (fun _ => ?_) (fun h => absurd h (by decide))
                                        refine z_aload_n (pc := 133) F dX8_work_133 rfl 0 rfl ?_
                                        refine z_get (pc := 134) (v := .int ((wkp S ro e (wk0 S) 4).1)) F iX8 0 rfl rfl 21 (by decide) tw_879 rfl dX8_work_134 ?_
                                        refine z_if_ne (pc := 137) (tgt := 155) F dX8_work_137 (by decide) (fun c137 => ?_) (fun c137 => ?_)
                                        · refine z_iconst (pc := 155) (v := 0) F dX8_work_155 (by decide) ?_
                                          exact z_zret (pc := 156) F hR rfl dX8_work_156 (Nat.le_of_ble_eq_true rfl) (Nat.le_of_ble_eq_true rfl) ⟨by rw [show decide ((wkp S ro e (wk0 S) 4).1 = 0 ∧ ¬ wkm S ro e (wk0 S) 0 = 0) = false from by first | (simp [c137]; done) | (simp [c147]; done)]; rfl, by rw [wkmd, hv0, hv1, hv2, hv3]; try rfl⟩
                                        · refine z_aload_n (pc := 140) F dX8_work_140 rfl 0 rfl ?_
                                          refine z_get (pc := 141) (v := .ref (r 17)) F iX8 0 rfl rfl 23 (by decide) tw_881 rfl dX8_work_141 ?_
                                          refine z_iconst (pc := 144) (v := 0) F dX8_work_144 (by decide) ?_
                                          refine z_laldN (pc := 145) (f := vp_updL (vp_updL (vp_updL (vp_updL (zb S 17) 0 (((wkp S ro e (wk0 S) 1).2.1) 0)) 1 (((wkp S ro e (wk0 S) 2).2.1) 0)) 2 0) 3 1) F 17 1 rfl rfl 0 (by decide) (by omega) (by decide) dX8_work_145 ?_
                                          rw [show ((vp_updL (vp_updL (vp_updL (vp_updL (zb S 17) 0 (((wkp S ro e (wk0 S) 1).2.1) 0)) 1 (((wkp S ro e (wk0 S) 2).2.1) 0)) 2 0) 3 1) 0) = wkm S ro e (wk0 S) 0 from (by simp [vp_updL, hv0])]
                                          refine z_lconst (pc := 146) (v := 0) F dX8_work_146 (by decide) ?_
                                          refine z_l_eq (pc := 147) (tgt := 155) F dX8_work_147 dX8_work_148 (by decide) (fun c147 => ?_) (fun c147 => ?_)
                                          · refine z_iconst (pc := 155) (v := 0) F dX8_work_155 (by decide) ?_
                                            exact z_zret (pc := 156) F hR rfl dX8_work_156 (Nat.le_of_ble_eq_true rfl) (Nat.le_of_ble_eq_true rfl) ⟨by rw [show decide ((wkp S ro e (wk0 S) 4).1 = 0 ∧ ¬ wkm S ro e (wk0 S) 0 = 0) = false from by first | (simp [c137]; done) | (simp [c147]; done)]; rfl, by rw [wkmd, hv0, hv1, hv2, hv3]; try rfl⟩
                                          · refine z_iconst (pc := 151) (v := 1) F dX8_work_151 (by decide) ?_
                                            refine z_goto (pc := 152) (tgt := 156) F dX8_work_152 (by decide) ?_
                                            exact z_zret (pc := 156) F hR rfl dX8_work_156 (Nat.le_of_ble_eq_true rfl) (Nat.le_of_ble_eq_true rfl) ⟨by rw [show decide ((wkp S ro e (wk0 S) 4).1 = 0 ∧ ¬ wkm S ro e (wk0 S) 0 = 0) = true from by simp [c137, c147]]; rfl, by rw [wkmd, hv0, hv1, hv2, hv3]; try rfl⟩
                                      · rw [if_neg hz3] at ht
                                        subst ht
                                        have hv3 : wkm S ro e (wk0 S) 3 = (wkp S ro e (wk0 S) 4).2.1 0 := by rw [wkm, if_neg hz3]
                                        refine z_aload_n (pc := 78) F dX8_work_78 rfl 0 rfl ?_
                                        refine z_get (pc := 79) (v := .ref (r 17)) F iX8 0 rfl rfl 23 (by decide) tw_881 rfl dX8_work_79 ?_
                                        refine z_iload (pc := 82) F dX8_work_82 3 rfl ?_
                                        refine z_aload_n (pc := 84) F dX8_work_84 rfl 0 rfl ?_
                                        refine z_get (pc := 85) (v := .int (nI ([false]).length)) F iX8 0 rfl rfl 19 (by decide) tw_877 rfl dX8_work_85 ?_
                                        rw [show (nI ([false]).length) = nI 1 from rfl]
                                        refine z_if_le (pc := 88) (tgt := 98) F dX8_work_88 (by decide) (fun h => absurd h (by decide)) (fun _ => ?_)
                                        refine z_aload_n (pc := 91) F dX8_work_91 rfl 0 rfl ?_
                                        refine z_callVW (pc := 92) (q0 := 0) (ci := 8) (rest := [.int 3, .ref (r 17)]) F (c_X8_pop l E r (zM S (vp_updL (vp_updL (vp_updL (zb S 17) 0 (((wkp S ro e (wk0 S) 1).2.1) 0)) 1 (((wkp S ro e (wk0 S) 2).2.1) 0)) 2 0)) 0 ((wkp S ro e (wk0 S) 4).1) ((wkp S ro e (wk0 S) 4).2.1) ((wkp S ro e (wk0 S) 4).2.2) (by decide)) 0 ww_Model_104 (by decide +kernel) rfl ⟨Nat.le_of_ble_eq_true rfl, Nat.le_of_ble_eq_true rfl⟩ ⟨Nat.le_of_ble_eq_true rfl, Nat.le_of_ble_eq_true rfl⟩ rfl rfl rfl rfl (Nat.le_of_ble_eq_true rfl) dX8_work_92 (fun v_ w1_ hp => ?_)
                                        obtain ⟨rfl, rfl⟩ := hp
                                        show Z X (0) (0) (mw E r (mwk S (nI 0) ((wkp S ro e (wk0 S) 4).1) ((wkp S ro e (wk0 S) 4).2.1) ((wkp S ro e (wk0 S) 4).2.2) (vp_updL (vp_updL (vp_updL (zb S 17) 0 (((wkp S ro e (wk0 S) 1).2.1) 0)) 1 (((wkp S ro e (wk0 S) 2).2.1) 0)) 2 0))) [(0, .ref (r 0)), (1, .int (nI q)), (2, .int (nI ro)), (4, .int 3), (5, .int (nI (e 4)))] 95 [.long (((wkp S ro e (wk0 S) 4).2.1) 0), .int 3, .ref (r 17)]
                                        refine z_goto (pc := 95) (tgt := 114) F dX8_work_95 (by decide) ?_
                                        refine z_lastN (pc := 114) (ws' := mw E r (mwk S (nI 0) ((wkp S ro e (wk0 S) 4).1) ((wkp S ro e (wk0 S) 4).2.1) ((wkp S ro e (wk0 S) 4).2.2) (vp_updL (vp_updL (vp_updL (vp_updL (zb S 17) 0 (((wkp S ro e (wk0 S) 1).2.1) 0)) 1 (((wkp S ro e (wk0 S) 2).2.1) 0)) 2 0) 3 (((wkp S ro e (wk0 S) 4).2.1) 0)))) (f := vp_updL (vp_updL (vp_updL (zb S 17) 0 (((wkp S ro e (wk0 S) 1).2.1) 0)) 1 (((wkp S ro e (wk0 S) 2).2.1) 0)) 2 0) F 17 1 rfl rfl 3 (by decide) (by omega) (by decide) dX8_work_114 rfl ?_
                                        refine z_aload_n (pc := 115) F dX8_work_115 rfl 0 rfl ?_
                                        refine z_get (pc := 116) (v := .ref (r 10)) F iX8 0 rfl rfl 13 (by decide) tw_871 rfl dX8_work_116 ?_
                                        refine z_iconst (pc := 119) (v := 4) F dX8_work_119 (by decide) ?_
                                        refine z_iload_n (pc := 120) F dX8_work_120 rfl 1 rfl ?_
                                        refine z_imul (pc := 121) F dX8_work_121 ?_
                                        refine z_iload (pc := 122) F dX8_work_122 3 rfl ?_
                                        refine z_iadd (pc := 124) F dX8_work_124 ?_
                                        refine z_ialdN (pc := 125) (f := za S 10) F 10 0 rfl rfl (4 * q + 3) (ix4 q 3) (by omega) (by decide) dX8_work_125 ?_
                                        rw [show (za S 10 (4 * q + 3)) = nI (e 4) from hE3]
                                        refine z_istore_n (pc := 126) (lv' := [(0, .ref (r 0)), (1, .int (nI q)), (2, .int (nI ro)), (3, .int (nI (e 4))), (4, .int 3), (5, .int (nI (e 4)))]) F dX8_work_126 rfl (by decide) [1, 2, 3, 0, 4, 5] rfl ?_
                                        refine z_iinc (pc := 127) (v := 4) (lv' := [(0, .ref (r 0)), (1, .int (nI q)), (2, .int (nI ro)), (3, .int (nI (e 4))), (4, .int 4), (5, .int (nI (e 4)))]) F (j := 4) dX8_work_127 rfl (by decide) (by decide) [1, 2, 3, 4, 0, 5] rfl ?_
                                        refine z_goto (pc := 130) (tgt := 35) F dX8_work_130 (by decide) ?_
                                        refine z_iload (pc := 35) F dX8_work_35 4 rfl ?_
                                        refine z_iconst (pc := 37) (v := 4) F dX8_work_37 (by decide) ?_
                                        refine z_icmp_ge (pc := 38) (tgt := 133) F dX8_work_38 (by decide) (fun _ => ?_) (fun h => absurd h (by decide))
                                        refine z_aload_n (pc := 133) F dX8_work_133 rfl 0 rfl ?_
                                        refine z_get (pc := 134) (v := .int ((wkp S ro e (wk0 S) 4).1)) F iX8 0 rfl rfl 21 (by decide) tw_879 rfl dX8_work_134 ?_
                                        refine z_if_ne (pc := 137) (tgt := 155) F dX8_work_137 (by decide) (fun c137 => ?_) (fun c137 => ?_)
                                        · refine z_iconst (pc := 155) (v := 0) F dX8_work_155 (by decide) ?_
                                          exact z_zret (pc := 156) F hR rfl dX8_work_156 (Nat.le_of_ble_eq_true rfl) (Nat.le_of_ble_eq_true rfl) ⟨by rw [show decide ((wkp S ro e (wk0 S) 4).1 = 0 ∧ ¬ wkm S ro e (wk0 S) 0 = 0) = false from by first | (simp [c137]; done) | (simp [c147]; done)]; rfl, by rw [wkmd, hv0, hv1, hv2, hv3]; try rfl⟩
                                        · refine z_aload_n (pc := 140) F dX8_work_140 rfl 0 rfl ?_
                                          refine z_get (pc := 141) (v := .ref (r 17)) F iX8 0 rfl rfl 23 (by decide) tw_881 rfl dX8_work_141 ?_
                                          refine z_iconst (pc := 144) (v := 0) F dX8_work_144 (by decide) ?_
                                          refine z_laldN (pc := 145) (f := vp_updL (vp_updL (vp_updL (vp_updL (zb S 17) 0 (((wkp S ro e (wk0 S) 1).2.1) 0)) 1 (((wkp S ro e (wk0 S) 2).2.1) 0)) 2 0) 3 (((wkp S ro e (wk0 S) 4).2.1) 0)) F 17 1 rfl rfl 0 (by decide) (by omega) (by decide) dX8_work_145 ?_
                                          rw [show ((vp_updL (vp_updL (vp_updL (vp_updL (zb S 17) 0 (((wkp S ro e (wk0 S) 1).2.1) 0)) 1 (((wkp S ro e (wk0 S) 2).2.1) 0)) 2 0) 3 (((wkp S ro e (wk0 S) 4).2.1) 0)) 0) = wkm S ro e (wk0 S) 0 from (by simp [vp_updL, hv0])]
                                          refine z_lconst (pc := 146) (v := 0) F dX8_work_146 (by decide) ?_
                                          refine z_l_eq (pc := 147) (tgt := 155) F dX8_work_147 dX8_work_148 (by decide) (fun c147 => ?_) (fun c147 => ?_)
                                          · refine z_iconst (pc := 155) (v := 0) F dX8_work_155 (by decide) ?_
                                            exact z_zret (pc := 156) F hR rfl dX8_work_156 (Nat.le_of_ble_eq_true rfl) (Nat.le_of_ble_eq_true rfl) ⟨by rw [show decide ((wkp S ro e (wk0 S) 4).1 = 0 ∧ ¬ wkm S ro e (wk0 S) 0 = 0) = false from by first | (simp [c137]; done) | (simp [c147]; done)]; rfl, by rw [wkmd, hv0, hv1, hv2, hv3]; try rfl⟩
                                          · refine z_iconst (pc := 151) (v := 1) F dX8_work_151 (by decide) ?_
                                            refine z_goto (pc := 152) (tgt := 156) F dX8_work_152 (by decide) ?_
                                            exact z_zret (pc := 156) F hR rfl dX8_work_156 (Nat.le_of_ble_eq_true rfl) (Nat.le_of_ble_eq_true rfl) ⟨by rw [show decide ((wkp S ro e (wk0 S) 4).1 = 0 ∧ ¬ wkm S ro e (wk0 S) 0 = 0) = true from by simp [c137, c147]]; rfl, by rw [wkmd, hv0, hv1, hv2, hv3]; try rfl⟩
                                    · have hlt := ngI (by omega) (by omega) c62
                                      obtain ⟨m, hm⟩ : ∃ m, e 4 - kk = m + 1 := ⟨e 4 - kk - 1, by omega⟩
                                      rw [hm] at hty hrr
                                      obtain ⟨t', hw, hty⟩ := tyr_s hty
                                      rw [rrn_s hw] at hrr
                                      obtain ⟨hok', hlen'⟩ := rsOk_step ho hro (num := za S 12 kk) hok hw
                                      have hm' : e 4 - (kk + 1) = m := by omega
                                      refine z_aload_n (pc := 65) F dX8_work_65 rfl 0 rfl ?_
                                      refine z_iload_n (pc := 66) F dX8_work_66 rfl 2 rfl ?_
                                      refine z_iload (pc := 67) F dX8_work_67 4 rfl ?_
                                      refine z_callVW (pc := 69) (q0 := 0) (ci := 8) (rest := []) F (c_X8_act l E r (zM S (vp_updL (vp_updL (vp_updL (zb S 17) 0 (((wkp S ro e (wk0 S) 1).2.1) 0)) 1 (((wkp S ro e (wk0 S) 2).2.1) 0)) 2 0)) p ro kk (cOp S kk) t t' (by omega) hro (hcd kk (by omega) (by omega)) hw (by omega) hok ho) 2 ww_Model_126 (by decide +kernel) rfl ⟨Nat.le_of_ble_eq_true rfl, Nat.le_of_ble_eq_true rfl⟩ ⟨Nat.le_of_ble_eq_true rfl, Nat.le_of_ble_eq_true rfl⟩ rfl rfl rfl rfl (Nat.le_of_ble_eq_true rfl) dX8_work_69 (fun v_ w1_ hp => ?_)
                                      obtain ⟨rfl, rfl⟩ := hp
                                      show Z X (0) (0) (mw E r (mwk S (nI t'.length) ((rst S ro (cOp S kk) (za S 12 kk) (t'.length - 1) p).1) ((rst S ro (cOp S kk) (za S 12 kk) (t'.length - 1) p).2.1) ((rst S ro (cOp S kk) (za S 12 kk) (t'.length - 1) p).2.2) (vp_updL (vp_updL (vp_updL (zb S 17) 0 (((wkp S ro e (wk0 S) 1).2.1) 0)) 1 (((wkp S ro e (wk0 S) 2).2.1) 0)) 2 0))) [(0, .ref (r 0)), (1, .int (nI q)), (2, .int (nI ro)), (4, .int 3), (5, .int (nI kk))] 72 []
                                      refine z_iinc (pc := 72) (v := nI (kk + 1)) (lv' := [(0, .ref (r 0)), (1, .int (nI q)), (2, .int (nI ro)), (4, .int 3), (5, .int (nI (kk + 1)))]) F (j := 4) dX8_work_72 rfl (nI_1 _) (by decide) [1, 2, 3, 4, 0] rfl ?_
                                      refine z_goto (pc := 75) (tgt := 49) F dX8_work_75 (by decide) ?_
                                      exact ih49_3 (kk + 1) t' (rst S ro (cOp S kk) (za S 12 kk) (t'.length - 1) p) (by omega) (by omega) (by omega) (by rw [hm']; exact hty) (by rw [hm']; exact hrr) hok' (by omega)
                                refine z_locals (lv' := [(0, .ref (r 0)), (1, .int (nI q)), (2, .int (nI ro)), (4, .int 3), (5, .int (nI (e 3)))]) [0, 1, 2, 4, 5] rfl ?_
                                exact L49_3 _ (e 3) [] (wkp S ro e (wk0 S) 3) (Nat.lt_succ_self _) (Nat.le_refl _) m3 (hty4 3 (by decide)) rfl trivial (Nat.zero_le _)
                              · rw [if_neg hz2] at ht
                                subst ht
                                have hv2 : wkm S ro e (wk0 S) 2 = (wkp S ro e (wk0 S) 3).2.1 0 := by rw [wkm, if_neg hz2]
                                refine z_aload_n (pc := 78) F dX8_work_78 rfl 0 rfl ?_
                                refine z_get (pc := 79) (v := .ref (r 17)) F iX8 0 rfl rfl 23 (by decide) tw_881 rfl dX8_work_79 ?_
                                refine z_iload (pc := 82) F dX8_work_82 3 rfl ?_
                                refine z_aload_n (pc := 84) F dX8_work_84 rfl 0 rfl ?_
                                refine z_get (pc := 85) (v := .int (nI ([false]).length)) F iX8 0 rfl rfl 19 (by decide) tw_877 rfl dX8_work_85 ?_
                                rw [show (nI ([false]).length) = nI 1 from rfl]
                                refine z_if_le (pc := 88) (tgt := 98) F dX8_work_88 (by decide) (fun h => absurd h (by decide)) (fun _ => ?_)
                                refine z_aload_n (pc := 91) F dX8_work_91 rfl 0 rfl ?_
                                refine z_callVW (pc := 92) (q0 := 0) (ci := 8) (rest := [.int 2, .ref (r 17)]) F (c_X8_pop l E r (zM S (vp_updL (vp_updL (zb S 17) 0 (((wkp S ro e (wk0 S) 1).2.1) 0)) 1 (((wkp S ro e (wk0 S) 2).2.1) 0))) 0 ((wkp S ro e (wk0 S) 3).1) ((wkp S ro e (wk0 S) 3).2.1) ((wkp S ro e (wk0 S) 3).2.2) (by decide)) 0 ww_Model_104 (by decide +kernel) rfl ⟨Nat.le_of_ble_eq_true rfl, Nat.le_of_ble_eq_true rfl⟩ ⟨Nat.le_of_ble_eq_true rfl, Nat.le_of_ble_eq_true rfl⟩ rfl rfl rfl rfl (Nat.le_of_ble_eq_true rfl) dX8_work_92 (fun v_ w1_ hp => ?_)
                                obtain ⟨rfl, rfl⟩ := hp
                                show Z X (0) (0) (mw E r (mwk S (nI 0) ((wkp S ro e (wk0 S) 3).1) ((wkp S ro e (wk0 S) 3).2.1) ((wkp S ro e (wk0 S) 3).2.2) (vp_updL (vp_updL (zb S 17) 0 (((wkp S ro e (wk0 S) 1).2.1) 0)) 1 (((wkp S ro e (wk0 S) 2).2.1) 0)))) [(0, .ref (r 0)), (1, .int (nI q)), (2, .int (nI ro)), (4, .int 2), (5, .int (nI (e 3)))] 95 [.long (((wkp S ro e (wk0 S) 3).2.1) 0), .int 2, .ref (r 17)]
                                refine z_goto (pc := 95) (tgt := 114) F dX8_work_95 (by decide) ?_
                                refine z_lastN (pc := 114) (ws' := mw E r (mwk S (nI 0) ((wkp S ro e (wk0 S) 3).1) ((wkp S ro e (wk0 S) 3).2.1) ((wkp S ro e (wk0 S) 3).2.2) (vp_updL (vp_updL (vp_updL (zb S 17) 0 (((wkp S ro e (wk0 S) 1).2.1) 0)) 1 (((wkp S ro e (wk0 S) 2).2.1) 0)) 2 (((wkp S ro e (wk0 S) 3).2.1) 0)))) (f := vp_updL (vp_updL (zb S 17) 0 (((wkp S ro e (wk0 S) 1).2.1) 0)) 1 (((wkp S ro e (wk0 S) 2).2.1) 0)) F 17 1 rfl rfl 2 (by decide) (by omega) (by decide) dX8_work_114 rfl ?_
                                refine z_aload_n (pc := 115) F dX8_work_115 rfl 0 rfl ?_
                                refine z_get (pc := 116) (v := .ref (r 10)) F iX8 0 rfl rfl 13 (by decide) tw_871 rfl dX8_work_116 ?_
                                refine z_iconst (pc := 119) (v := 4) F dX8_work_119 (by decide) ?_
                                refine z_iload_n (pc := 120) F dX8_work_120 rfl 1 rfl ?_
                                refine z_imul (pc := 121) F dX8_work_121 ?_
                                refine z_iload (pc := 122) F dX8_work_122 3 rfl ?_
                                refine z_iadd (pc := 124) F dX8_work_124 ?_
                                refine z_ialdN (pc := 125) (f := za S 10) F 10 0 rfl rfl (4 * q + 2) (ix4 q 2) (by omega) (by decide) dX8_work_125 ?_
                                rw [show (za S 10 (4 * q + 2)) = nI (e 3) from hE2]
                                refine z_istore_n (pc := 126) (lv' := [(0, .ref (r 0)), (1, .int (nI q)), (2, .int (nI ro)), (3, .int (nI (e 3))), (4, .int 2), (5, .int (nI (e 3)))]) F dX8_work_126 rfl (by decide) [1, 2, 3, 0, 4, 5] rfl ?_
                                refine z_iinc (pc := 127) (v := 3) (lv' := [(0, .ref (r 0)), (1, .int (nI q)), (2, .int (nI ro)), (3, .int (nI (e 3))), (4, .int 3), (5, .int (nI (e 3)))]) F (j := 4) dX8_work_127 rfl (by decide) (by decide) [1, 2, 3, 4, 0, 5] rfl ?_
                                refine z_goto (pc := 130) (tgt := 35) F dX8_work_130 (by decide) ?_
                                refine z_iload (pc := 35) F dX8_work_35 4 rfl ?_
                                refine z_iconst (pc := 37) (v := 4) F dX8_work_37 (by decide) ?_
                                refine z_icmp_ge (pc := 38) (tgt := 133) F dX8_work_38 (by decide) (fun h => absurd h (by decide)) (fun _ => ?_)
                                refine z_aload_n (pc := 41) F dX8_work_41 rfl 0 rfl ?_
                                refine z_iconst (pc := 42) (v := 0) F dX8_work_42 (by decide) ?_
                                refine z_put (pc := 43) (ws' := mw E r (mwk S 0 ((wkp S ro e (wk0 S) 3).1) ((wkp S ro e (wk0 S) 3).2.1) ((wkp S ro e (wk0 S) 3).2.2) (vp_updL (vp_updL (vp_updL (zb S 17) 0 (((wkp S ro e (wk0 S) 1).2.1) 0)) 1 (((wkp S ro e (wk0 S) 2).2.1) 0)) 2 (((wkp S ro e (wk0 S) 3).2.1) 0)))) F iX8 tyX8 tyX8_ok nmX8 0 rfl rfl 19 (by decide) tw_877 rfl rfl rfl (Nat.le_of_ble_eq_true rfl) dX8_work_43 rfl ?_
                                refine z_iload_n (pc := 46) F dX8_work_46 rfl 3 rfl ?_
                                refine z_istore (pc := 47) (lv' := [(0, .ref (r 0)), (1, .int (nI q)), (2, .int (nI ro)), (3, .int (nI (e 3))), (4, .int 3), (5, .int (nI (e 3)))]) F dX8_work_47 (by decide) [1, 2, 3, 4, 5, 0] rfl ?_
                                have L49_3 : ∀ (N : Nat) (kk : Nat) (t : List Bool) (p : zP), (e 4 - kk) < N → (e 3 ≤ kk) → (kk ≤ e 4) → (tyr S kk (e 4 - kk) t = some (if e 4 = e 3 then [] else [false])) → (rrn S ro kk (e 4 - kk) t p = (wkp S ro e (wk0 S) 4)) → (rsOk p.2.1 t) → (t.length ≤ kk - e 3) → Z X (0) (0) (mw E r (mwk S (nI t.length) (p.1) (p.2.1) (p.2.2) (vp_updL (vp_updL (vp_updL (zb S 17) 0 (((wkp S ro e (wk0 S) 1).2.1) 0)) 1 (((wkp S ro e (wk0 S) 2).2.1) 0)) 2 (((wkp S ro e (wk0 S) 3).2.1) 0)))) [(0, .ref (r 0)), (1, .int (nI q)), (2, .int (nI ro)), (4, .int 3), (5, .int (nI kk))] 49 [] := by
                                  intro N
                                  induction N with
                                  | zero => intro kk t p hN; exact absurd hN (Nat.not_lt_zero _)
                                  | succ N ih49_3 =>
                                    intro kk t p hN hk1 hk2 hty hrr hok hlen
                                    refine z_iload (pc := 49) F dX8_work_49 4 rfl ?_
                                    refine z_aload_n (pc := 51) F dX8_work_51 rfl 0 rfl ?_
                                    refine z_get (pc := 52) (v := .ref (r 10)) F iX8 0 rfl rfl 13 (by decide) tw_871 rfl dX8_work_52 ?_
                                    refine z_iconst (pc := 55) (v := 4) F dX8_work_55 (by decide) ?_
                                    refine z_iload_n (pc := 56) F dX8_work_56 rfl 1 rfl ?_
                                    refine z_imul (pc := 57) F dX8_work_57 ?_
                                    refine z_iload (pc := 58) F dX8_work_58 3 rfl ?_
                                    refine z_iadd (pc := 60) F dX8_work_60 ?_
                                    refine z_ialdN (pc := 61) (f := za S 10) F 10 0 rfl rfl (4 * q + 3) (ix4 q 3) (by omega) (by decide) dX8_work_61 ?_
                                    rw [show (za S 10 (4 * q + 3)) = nI (e 4) from hE3]
                                    refine z_icmp_ge (pc := 62) (tgt := 78) F dX8_work_62 (by decide) (fun c62 => ?_) (fun c62 => ?_)
                                    · have hkk : kk = e 4 := Nat.le_antisymm hk2 (gI (by omega) (by omega) c62)
                                      subst hkk
                                      rw [Nat.sub_self] at hty hrr
                                      have ht := Option.some.inj hty
                                      have hp : p = (wkp S ro e (wk0 S) 4) := hrr
                                      subst hp
                                      rcases Classical.em (e 4 = e 3) with hz3 | hz3
                                      · rw [if_pos hz3] at ht
                                        subst ht
                                        have hv3 : wkm S ro e (wk0 S) 3 = 1 := by rw [wkm, if_pos hz3]; rfl
                                        refine z_aload_n (pc := 78) F dX8_work_78 rfl 0 rfl ?_
                                        refine z_get (pc := 79) (v := .ref (r 17)) F iX8 0 rfl rfl 23 (by decide) tw_881 rfl dX8_work_79 ?_
                                        refine z_iload (pc := 82) F dX8_work_82 3 rfl ?_
                                        refine z_aload_n (pc := 84) F dX8_work_84 rfl 0 rfl ?_
                                        refine z_get (pc := 85) (v := .int (nI ([] : List Bool).length)) F iX8 0 rfl rfl 19 (by decide) tw_877 rfl dX8_work_85 ?_
                                        rw [show (nI ([] : List Bool).length) = nI 0 from rfl]
                                        refine z_if_le (pc := 88) (tgt := 98) F dX8_work_88 (by decide) (fun _ => ?_) (fun h => absurd h (by decide))
                                        refine z_iload (pc := 98) F dX8_work_98 3 rfl ?_
                                        refine z_if_eq (pc := 100) (tgt := 109) F dX8_work_100 (by decide) (fun h => absurd h (by decide)) (fun _ => ?_)
                                        refine z_iload (pc := 103) F dX8_work_103 3 rfl ?_
                                        refine z_iconst (pc := 105) (v := 3) F dX8_work_105 (by decide) ?_
                                        refine z_icmp_ne (pc := 106) (tgt := 113) F dX8_work_106 (by decide) (fun h => absurd h (by decide)) (fun _ => ?_)
                                        refine z_lconst (pc := 109) (v := 1) F dX8_work_109 (by decide) ?_
                                        refine z_goto (pc := 110) (tgt := 114) F dX8_work_110 (by decide) ?_
                                        refine z_lastN (pc := 114) (ws' := mw E r (mwk S (nI ([] : List Bool).length) ((wkp S ro e (wk0 S) 4).1) ((wkp S ro e (wk0 S) 4).2.1) ((wkp S ro e (wk0 S) 4).2.2) (vp_updL (vp_updL (vp_updL (vp_updL (zb S 17) 0 (((wkp S ro e (wk0 S) 1).2.1) 0)) 1 (((wkp S ro e (wk0 S) 2).2.1) 0)) 2 (((wkp S ro e (wk0 S) 3).2.1) 0)) 3 1))) (f := vp_updL (vp_updL (vp_updL (zb S 17) 0 (((wkp S ro e (wk0 S) 1).2.1) 0)) 1 (((wkp S ro e (wk0 S) 2).2.1) 0)) 2 (((wkp S ro e (wk0 S) 3).2.1) 0)) F 17 1 rfl rfl 3 (by decide) (by omega) (by decide) dX8_work_114 rfl ?_
                                        refine z_aload_n (pc := 115) F dX8_work_115 rfl 0 rfl ?_
                                        refine z_get (pc := 116) (v := .ref (r 10)) F iX8 0 rfl rfl 13 (by decide) tw_871 rfl dX8_work_116 ?_
                                        refine z_iconst (pc := 119) (v := 4) F dX8_work_119 (by decide) ?_
                                        refine z_iload_n (pc := 120) F dX8_work_120 rfl 1 rfl ?_
                                        refine z_imul (pc := 121) F dX8_work_121 ?_
                                        refine z_iload (pc := 122) F dX8_work_122 3 rfl ?_
                                        refine z_iadd (pc := 124) F dX8_work_124 ?_
                                        refine z_ialdN (pc := 125) (f := za S 10) F 10 0 rfl rfl (4 * q + 3) (ix4 q 3) (by omega) (by decide) dX8_work_125 ?_
                                        rw [show (za S 10 (4 * q + 3)) = nI (e 4) from hE3]
                                        refine z_istore_n (pc := 126) (lv' := [(0, .ref (r 0)), (1, .int (nI q)), (2, .int (nI ro)), (3, .int (nI (e 4))), (4, .int 3), (5, .int (nI (e 4)))]) F dX8_work_126 rfl (by decide) [1, 2, 3, 0, 4, 5] rfl ?_
                                        refine z_iinc (pc := 127) (v := 4) (lv' := [(0, .ref (r 0)), (1, .int (nI q)), (2, .int (nI ro)), (3, .int (nI (e 4))), (4, .int 4), (5, .int (nI (e 4)))]) F (j := 4) dX8_work_127 rfl (by decide) (by decide) [1, 2, 3, 4, 0, 5] rfl ?_
                                        refine z_goto (pc := 130) (tgt := 35) F dX8_work_130 (by decide) ?_
                                        refine z_iload (pc := 35) F dX8_work_35 4 rfl ?_
                                        refine z_iconst (pc := 37) (v := 4) F dX8_work_37 (by decide) ?_
                                        refine z_icmp_ge (pc := 38) (tgt := 133) F dX8_work_38 (by decide) (fun _ => ?_) (fun h => absurd h (by decide))
                                        refine z_aload_n (pc := 133) F dX8_work_133 rfl 0 rfl ?_
                                        refine z_get (pc := 134) (v := .int ((wkp S ro e (wk0 S) 4).1)) F iX8 0 rfl rfl 21 (by decide) tw_879 rfl dX8_work_134 ?_
                                        refine z_if_ne (pc := 137) (tgt := 155) F dX8_work_137 (by decide) (fun c137 => ?_) (fun c137 => ?_)
                                        · refine z_iconst (pc := 155) (v := 0) F dX8_work_155 (by decide) ?_
                                          exact z_zret (pc := 156) F hR rfl dX8_work_156 (Nat.le_of_ble_eq_true rfl) (Nat.le_of_ble_eq_true rfl) ⟨by rw [show decide ((wkp S ro e (wk0 S) 4).1 = 0 ∧ ¬ wkm S ro e (wk0 S) 0 = 0) = false from by first | (simp [c137]; done) | (simp [c147]; done)]; rfl, by rw [wkmd, hv0, hv1, hv2, hv3]; try rfl⟩
                                        · refine z_aload_n (pc := 140) F dX8_work_140 rfl 0 rfl ?_
                                          refine z_get (pc := 141) (v := .ref (r 17)) F iX8 0 rfl rfl 23 (by decide) tw_881 rfl dX8_work_141 ?_
                                          refine z_iconst (pc := 144) (v := 0) F dX8_work_144 (by decide) ?_
                                          refine z_laldN (pc := 145) (f := vp_updL (vp_updL (vp_updL (vp_updL (zb S 17) 0 (((wkp S ro e (wk0 S) 1).2.1) 0)) 1 (((wkp S ro e (wk0 S) 2).2.1) 0)) 2 (((wkp S ro e (wk0 S) 3).2.1) 0)) 3 1) F 17 1 rfl rfl 0 (by decide) (by omega) (by decide) dX8_work_145 ?_
                                          rw [show ((vp_updL (vp_updL (vp_updL (vp_updL (zb S 17) 0 (((wkp S ro e (wk0 S) 1).2.1) 0)) 1 (((wkp S ro e (wk0 S) 2).2.1) 0)) 2 (((wkp S ro e (wk0 S) 3).2.1) 0)) 3 1) 0) = wkm S ro e (wk0 S) 0 from (by simp [vp_updL, hv0])]
                                          refine z_lconst (pc := 146) (v := 0) F dX8_work_146 (by decide) ?_
                                          refine z_l_eq (pc := 147) (tgt := 155) F dX8_work_147 dX8_work_148 (by decide) (fun c147 => ?_) (fun c147 => ?_)
                                          · refine z_iconst (pc := 155) (v := 0) F dX8_work_155 (by decide) ?_
                                            exact z_zret (pc := 156) F hR rfl dX8_work_156 (Nat.le_of_ble_eq_true rfl) (Nat.le_of_ble_eq_true rfl) ⟨by rw [show decide ((wkp S ro e (wk0 S) 4).1 = 0 ∧ ¬ wkm S ro e (wk0 S) 0 = 0) = false from by first | (simp [c137]; done) | (simp [c147]; done)]; rfl, by rw [wkmd, hv0, hv1, hv2, hv3]; try rfl⟩
                                          · refine z_iconst (pc := 151) (v := 1) F dX8_work_151 (by decide) ?_
                                            refine z_goto (pc := 152) (tgt := 156) F dX8_work_152 (by decide) ?_
                                            exact z_zret (pc := 156) F hR rfl dX8_work_156 (Nat.le_of_ble_eq_true rfl) (Nat.le_of_ble_eq_true rfl) ⟨by rw [show decide ((wkp S ro e (wk0 S) 4).1 = 0 ∧ ¬ wkm S ro e (wk0 S) 0 = 0) = true from by simp [c137, c147]]; rfl, by rw [wkmd, hv0, hv1, hv2, hv3]; try rfl⟩
                                      · rw [if_neg hz3] at ht
                                        subst ht
                                        have hv3 : wkm S ro e (wk0 S) 3 = (wkp S ro e (wk0 S) 4).2.1 0 := by rw [wkm, if_neg hz3]
                                        refine z_aload_n (pc := 78) F dX8_work_78 rfl 0 rfl ?_
                                        refine z_get (pc := 79) (v := .ref (r 17)) F iX8 0 rfl rfl 23 (by decide) tw_881 rfl dX8_work_79 ?_
                                        refine z_iload (pc := 82) F dX8_work_82 3 rfl ?_
                                        refine z_aload_n (pc := 84) F dX8_work_84 rfl 0 rfl ?_
                                        refine z_get (pc := 85) (v := .int (nI ([false]).length)) F iX8 0 rfl rfl 19 (by decide) tw_877 rfl dX8_work_85 ?_
                                        rw [show (nI ([false]).length) = nI 1 from rfl]
                                        refine z_if_le (pc := 88) (tgt := 98) F dX8_work_88 (by decide) (fun h => absurd h (by decide)) (fun _ => ?_)
                                        refine z_aload_n (pc := 91) F dX8_work_91 rfl 0 rfl ?_
                                        refine z_callVW (pc := 92) (q0 := 0) (ci := 8) (rest := [.int 3, .ref (r 17)]) F (c_X8_pop l E r (zM S (vp_updL (vp_updL (vp_updL (zb S 17) 0 (((wkp S ro e (wk0 S) 1).2.1) 0)) 1 (((wkp S ro e (wk0 S) 2).2.1) 0)) 2 (((wkp S ro e (wk0 S) 3).2.1) 0))) 0 ((wkp S ro e (wk0 S) 4).1) ((wkp S ro e (wk0 S) 4).2.1) ((wkp S ro e (wk0 S) 4).2.2) (by decide)) 0 ww_Model_104 (by decide +kernel) rfl ⟨Nat.le_of_ble_eq_true rfl, Nat.le_of_ble_eq_true rfl⟩ ⟨Nat.le_of_ble_eq_true rfl, Nat.le_of_ble_eq_true rfl⟩ rfl rfl rfl rfl (Nat.le_of_ble_eq_true rfl) dX8_work_92 (fun v_ w1_ hp => ?_)
                                        obtain ⟨rfl, rfl⟩ := hp
                                        show Z X (0) (0) (mw E r (mwk S (nI 0) ((wkp S ro e (wk0 S) 4).1) ((wkp S ro e (wk0 S) 4).2.1) ((wkp S ro e (wk0 S) 4).2.2) (vp_updL (vp_updL (vp_updL (zb S 17) 0 (((wkp S ro e (wk0 S) 1).2.1) 0)) 1 (((wkp S ro e (wk0 S) 2).2.1) 0)) 2 (((wkp S ro e (wk0 S) 3).2.1) 0)))) [(0, .ref (r 0)), (1, .int (nI q)), (2, .int (nI ro)), (4, .int 3), (5, .int (nI (e 4)))] 95 [.long (((wkp S ro e (wk0 S) 4).2.1) 0), .int 3, .ref (r 17)]
                                        refine z_goto (pc := 95) (tgt := 114) F dX8_work_95 (by decide) ?_
                                        refine z_lastN (pc := 114) (ws' := mw E r (mwk S (nI 0) ((wkp S ro e (wk0 S) 4).1) ((wkp S ro e (wk0 S) 4).2.1) ((wkp S ro e (wk0 S) 4).2.2) (vp_updL (vp_updL (vp_updL (vp_updL (zb S 17) 0 (((wkp S ro e (wk0 S) 1).2.1) 0)) 1 (((wkp S ro e (wk0 S) 2).2.1) 0)) 2 (((wkp S ro e (wk0 S) 3).2.1) 0)) 3 (((wkp S ro e (wk0 S) 4).2.1) 0)))) (f := vp_updL (vp_updL (vp_updL (zb S 17) 0 (((wkp S ro e (wk0 S) 1).2.1) 0)) 1 (((wkp S ro e (wk0 S) 2).2.1) 0)) 2 (((wkp S ro e (wk0 S) 3).2.1) 0)) F 17 1 rfl rfl 3 (by decide) (by omega) (by decide) dX8_work_114 rfl ?_
                                        refine z_aload_n (pc := 115) F dX8_work_115 rfl 0 rfl ?_
                                        refine z_get (pc := 116) (v := .ref (r 10)) F iX8 0 rfl rfl 13 (by decide) tw_871 rfl dX8_work_116 ?_
                                        refine z_iconst (pc := 119) (v := 4) F dX8_work_119 (by decide) ?_
                                        refine z_iload_n (pc := 120) F dX8_work_120 rfl 1 rfl ?_
                                        refine z_imul (pc := 121) F dX8_work_121 ?_
                                        refine z_iload (pc := 122) F dX8_work_122 3 rfl ?_
                                        refine z_iadd (pc := 124) F dX8_work_124 ?_
                                        refine z_ialdN (pc := 125) (f := za S 10) F 10 0 rfl rfl (4 * q + 3) (ix4 q 3) (by omega) (by decide) dX8_work_125 ?_
                                        rw [show (za S 10 (4 * q + 3)) = nI (e 4) from hE3]
                                        refine z_istore_n (pc := 126) (lv' := [(0, .ref (r 0)), (1, .int (nI q)), (2, .int (nI ro)), (3, .int (nI (e 4))), (4, .int 3), (5, .int (nI (e 4)))]) F dX8_work_126 rfl (by decide) [1, 2, 3, 0, 4, 5] rfl ?_
                                        refine z_iinc (pc := 127) (v := 4) (lv' := [(0, .ref (r 0)), (1, .int (nI q)), (2, .int (nI ro)), (3, .int (nI (e 4))), (4, .int 4), (5, .int (nI (e 4)))]) F (j := 4) dX8_work_127 rfl (by decide) (by decide) [1, 2, 3, 4, 0, 5] rfl ?_
                                        refine z_goto (pc := 130) (tgt := 35) F dX8_work_130 (by decide) ?_
                                        refine z_iload (pc := 35) F dX8_work_35 4 rfl ?_
                                        refine z_iconst (pc := 37) (v := 4) F dX8_work_37 (by decide) ?_
                                        refine z_icmp_ge (pc := 38) (tgt := 133) F dX8_work_38 (by decide) (fun _ => ?_) (fun h => absurd h (by decide))
                                        refine z_aload_n (pc := 133) F dX8_work_133 rfl 0 rfl ?_
                                        refine z_get (pc := 134) (v := .int ((wkp S ro e (wk0 S) 4).1)) F iX8 0 rfl rfl 21 (by decide) tw_879 rfl dX8_work_134 ?_
                                        refine z_if_ne (pc := 137) (tgt := 155) F dX8_work_137 (by decide) (fun c137 => ?_) (fun c137 => ?_)
                                        · refine z_iconst (pc := 155) (v := 0) F dX8_work_155 (by decide) ?_
                                          exact z_zret (pc := 156) F hR rfl dX8_work_156 (Nat.le_of_ble_eq_true rfl) (Nat.le_of_ble_eq_true rfl) ⟨by rw [show decide ((wkp S ro e (wk0 S) 4).1 = 0 ∧ ¬ wkm S ro e (wk0 S) 0 = 0) = false from by first | (simp [c137]; done) | (simp [c147]; done)]; rfl, by rw [wkmd, hv0, hv1, hv2, hv3]; try rfl⟩
                                        · refine z_aload_n (pc := 140) F dX8_work_140 rfl 0 rfl ?_
                                          refine z_get (pc := 141) (v := .ref (r 17)) F iX8 0 rfl rfl 23 (by decide) tw_881 rfl dX8_work_141 ?_
                                          refine z_iconst (pc := 144) (v := 0) F dX8_work_144 (by decide) ?_
                                          refine z_laldN (pc := 145) (f := vp_updL (vp_updL (vp_updL (vp_updL (zb S 17) 0 (((wkp S ro e (wk0 S) 1).2.1) 0)) 1 (((wkp S ro e (wk0 S) 2).2.1) 0)) 2 (((wkp S ro e (wk0 S) 3).2.1) 0)) 3 (((wkp S ro e (wk0 S) 4).2.1) 0)) F 17 1 rfl rfl 0 (by decide) (by omega) (by decide) dX8_work_145 ?_
                                          rw [show ((vp_updL (vp_updL (vp_updL (vp_updL (zb S 17) 0 (((wkp S ro e (wk0 S) 1).2.1) 0)) 1 (((wkp S ro e (wk0 S) 2).2.1) 0)) 2 (((wkp S ro e (wk0 S) 3).2.1) 0)) 3 (((wkp S ro e (wk0 S) 4).2.1) 0)) 0) = wkm S ro e (wk0 S) 0 from (by simp [vp_updL, hv0])]
                                          refine z_lconst (pc := 146) (v := 0) F dX8_work_146 (by decide) ?_
                                          refine z_l_eq (pc := 147) (tgt := 155) F dX8_work_147 dX8_work_148 (by decide) (fun c147 => ?_) (fun c147 => ?_)
                                          · refine z_iconst (pc := 155) (v := 0) F dX8_work_155 (by decide) ?_
                                            exact z_zret (pc := 156) F hR rfl dX8_work_156 (Nat.le_of_ble_eq_true rfl) (Nat.le_of_ble_eq_true rfl) ⟨by rw [show decide ((wkp S ro e (wk0 S) 4).1 = 0 ∧ ¬ wkm S ro e (wk0 S) 0 = 0) = false from by first | (simp [c137]; done) | (simp [c147]; done)]; rfl, by rw [wkmd, hv0, hv1, hv2, hv3]; try rfl⟩
                                          · refine z_iconst (pc := 151) (v := 1) F dX8_work_151 (by decide) ?_
                                            refine z_goto (pc := 152) (tgt := 156) F dX8_work_152 (by decide) ?_
                                            exact z_zret (pc := 156) F hR rfl dX8_work_156 (Nat.le_of_ble_eq_true rfl) (Nat.le_of_ble_eq_true rfl) ⟨by rw [show decide ((wkp S ro e (wk0 S) 4).1 = 0 ∧ ¬ wkm S ro e (wk0 S) 0 = 0) = true from by simp [c137, c147]]; rfl, by rw [wkmd, hv0, hv1, hv2, hv3]; try rfl⟩
                                    · have hlt := ngI (by omega) (by omega) c62
                                      obtain ⟨m, hm⟩ : ∃ m, e 4 - kk = m + 1 := ⟨e 4 - kk - 1, by omega⟩
                                      rw [hm] at hty hrr
                                      obtain ⟨t', hw, hty⟩ := tyr_s hty
                                      rw [rrn_s hw] at hrr
                                      obtain ⟨hok', hlen'⟩ := rsOk_step ho hro (num := za S 12 kk) hok hw
                                      have hm' : e 4 - (kk + 1) = m := by omega
                                      refine z_aload_n (pc := 65) F dX8_work_65 rfl 0 rfl ?_
                                      refine z_iload_n (pc := 66) F dX8_work_66 rfl 2 rfl ?_
                                      refine z_iload (pc := 67) F dX8_work_67 4 rfl ?_
                                      refine z_callVW (pc := 69) (q0 := 0) (ci := 8) (rest := []) F (c_X8_act l E r (zM S (vp_updL (vp_updL (vp_updL (zb S 17) 0 (((wkp S ro e (wk0 S) 1).2.1) 0)) 1 (((wkp S ro e (wk0 S) 2).2.1) 0)) 2 (((wkp S ro e (wk0 S) 3).2.1) 0))) p ro kk (cOp S kk) t t' (by omega) hro (hcd kk (by omega) (by omega)) hw (by omega) hok ho) 2 ww_Model_126 (by decide +kernel) rfl ⟨Nat.le_of_ble_eq_true rfl, Nat.le_of_ble_eq_true rfl⟩ ⟨Nat.le_of_ble_eq_true rfl, Nat.le_of_ble_eq_true rfl⟩ rfl rfl rfl rfl (Nat.le_of_ble_eq_true rfl) dX8_work_69 (fun v_ w1_ hp => ?_)
                                      obtain ⟨rfl, rfl⟩ := hp
                                      show Z X (0) (0) (mw E r (mwk S (nI t'.length) ((rst S ro (cOp S kk) (za S 12 kk) (t'.length - 1) p).1) ((rst S ro (cOp S kk) (za S 12 kk) (t'.length - 1) p).2.1) ((rst S ro (cOp S kk) (za S 12 kk) (t'.length - 1) p).2.2) (vp_updL (vp_updL (vp_updL (zb S 17) 0 (((wkp S ro e (wk0 S) 1).2.1) 0)) 1 (((wkp S ro e (wk0 S) 2).2.1) 0)) 2 (((wkp S ro e (wk0 S) 3).2.1) 0)))) [(0, .ref (r 0)), (1, .int (nI q)), (2, .int (nI ro)), (4, .int 3), (5, .int (nI kk))] 72 []
                                      refine z_iinc (pc := 72) (v := nI (kk + 1)) (lv' := [(0, .ref (r 0)), (1, .int (nI q)), (2, .int (nI ro)), (4, .int 3), (5, .int (nI (kk + 1)))]) F (j := 4) dX8_work_72 rfl (nI_1 _) (by decide) [1, 2, 3, 4, 0] rfl ?_
                                      refine z_goto (pc := 75) (tgt := 49) F dX8_work_75 (by decide) ?_
                                      exact ih49_3 (kk + 1) t' (rst S ro (cOp S kk) (za S 12 kk) (t'.length - 1) p) (by omega) (by omega) (by omega) (by rw [hm']; exact hty) (by rw [hm']; exact hrr) hok' (by omega)
                                refine z_locals (lv' := [(0, .ref (r 0)), (1, .int (nI q)), (2, .int (nI ro)), (4, .int 3), (5, .int (nI (e 3)))]) [0, 1, 2, 4, 5] rfl ?_
                                exact L49_3 _ (e 3) [] (wkp S ro e (wk0 S) 3) (Nat.lt_succ_self _) (Nat.le_refl _) m3 (hty4 3 (by decide)) rfl trivial (Nat.zero_le _)
                            · have hlt := ngI (by omega) (by omega) c62
                              obtain ⟨m, hm⟩ : ∃ m, e 3 - kk = m + 1 := ⟨e 3 - kk - 1, by omega⟩
                              rw [hm] at hty hrr
                              obtain ⟨t', hw, hty⟩ := tyr_s hty
                              rw [rrn_s hw] at hrr
                              obtain ⟨hok', hlen'⟩ := rsOk_step ho hro (num := za S 12 kk) hok hw
                              have hm' : e 3 - (kk + 1) = m := by omega
                              refine z_aload_n (pc := 65) F dX8_work_65 rfl 0 rfl ?_
                              refine z_iload_n (pc := 66) F dX8_work_66 rfl 2 rfl ?_
                              refine z_iload (pc := 67) F dX8_work_67 4 rfl ?_
                              refine z_callVW (pc := 69) (q0 := 0) (ci := 8) (rest := []) F (c_X8_act l E r (zM S (vp_updL (vp_updL (zb S 17) 0 (((wkp S ro e (wk0 S) 1).2.1) 0)) 1 (((wkp S ro e (wk0 S) 2).2.1) 0))) p ro kk (cOp S kk) t t' (by omega) hro (hcd kk (by omega) (by omega)) hw (by omega) hok ho) 2 ww_Model_126 (by decide +kernel) rfl ⟨Nat.le_of_ble_eq_true rfl, Nat.le_of_ble_eq_true rfl⟩ ⟨Nat.le_of_ble_eq_true rfl, Nat.le_of_ble_eq_true rfl⟩ rfl rfl rfl rfl (Nat.le_of_ble_eq_true rfl) dX8_work_69 (fun v_ w1_ hp => ?_)
                              obtain ⟨rfl, rfl⟩ := hp
                              show Z X (0) (0) (mw E r (mwk S (nI t'.length) ((rst S ro (cOp S kk) (za S 12 kk) (t'.length - 1) p).1) ((rst S ro (cOp S kk) (za S 12 kk) (t'.length - 1) p).2.1) ((rst S ro (cOp S kk) (za S 12 kk) (t'.length - 1) p).2.2) (vp_updL (vp_updL (zb S 17) 0 (((wkp S ro e (wk0 S) 1).2.1) 0)) 1 (((wkp S ro e (wk0 S) 2).2.1) 0)))) [(0, .ref (r 0)), (1, .int (nI q)), (2, .int (nI ro)), (4, .int 2), (5, .int (nI kk))] 72 []
                              refine z_iinc (pc := 72) (v := nI (kk + 1)) (lv' := [(0, .ref (r 0)), (1, .int (nI q)), (2, .int (nI ro)), (4, .int 2), (5, .int (nI (kk + 1)))]) F (j := 4) dX8_work_72 rfl (nI_1 _) (by decide) [1, 2, 3, 4, 0] rfl ?_
                              refine z_goto (pc := 75) (tgt := 49) F dX8_work_75 (by decide) ?_
                              exact ih49_2 (kk + 1) t' (rst S ro (cOp S kk) (za S 12 kk) (t'.length - 1) p) (by omega) (by omega) (by omega) (by rw [hm']; exact hty) (by rw [hm']; exact hrr) hok' (by omega)
                        refine z_locals (lv' := [(0, .ref (r 0)), (1, .int (nI q)), (2, .int (nI ro)), (4, .int 2), (5, .int (nI (e 2)))]) [0, 1, 2, 4, 5] rfl ?_
                        exact L49_2 _ (e 2) [] (wkp S ro e (wk0 S) 2) (Nat.lt_succ_self _) (Nat.le_refl _) m2 (hty4 2 (by decide)) rfl trivial (Nat.zero_le _)
                    · have hlt := ngI (by omega) (by omega) c62
                      obtain ⟨m, hm⟩ : ∃ m, e 2 - kk = m + 1 := ⟨e 2 - kk - 1, by omega⟩
                      rw [hm] at hty hrr
                      obtain ⟨t', hw, hty⟩ := tyr_s hty
                      rw [rrn_s hw] at hrr
                      obtain ⟨hok', hlen'⟩ := rsOk_step ho hro (num := za S 12 kk) hok hw
                      have hm' : e 2 - (kk + 1) = m := by omega
                      refine z_aload_n (pc := 65) F dX8_work_65 rfl 0 rfl ?_
                      refine z_iload_n (pc := 66) F dX8_work_66 rfl 2 rfl ?_
                      refine z_iload (pc := 67) F dX8_work_67 4 rfl ?_
                      refine z_callVW (pc := 69) (q0 := 0) (ci := 8) (rest := []) F (c_X8_act l E r (zM S (vp_updL (zb S 17) 0 (((wkp S ro e (wk0 S) 1).2.1) 0))) p ro kk (cOp S kk) t t' (by omega) hro (hcd kk (by omega) (by omega)) hw (by omega) hok ho) 2 ww_Model_126 (by decide +kernel) rfl ⟨Nat.le_of_ble_eq_true rfl, Nat.le_of_ble_eq_true rfl⟩ ⟨Nat.le_of_ble_eq_true rfl, Nat.le_of_ble_eq_true rfl⟩ rfl rfl rfl rfl (Nat.le_of_ble_eq_true rfl) dX8_work_69 (fun v_ w1_ hp => ?_)
                      obtain ⟨rfl, rfl⟩ := hp
                      show Z X (0) (0) (mw E r (mwk S (nI t'.length) ((rst S ro (cOp S kk) (za S 12 kk) (t'.length - 1) p).1) ((rst S ro (cOp S kk) (za S 12 kk) (t'.length - 1) p).2.1) ((rst S ro (cOp S kk) (za S 12 kk) (t'.length - 1) p).2.2) (vp_updL (zb S 17) 0 (((wkp S ro e (wk0 S) 1).2.1) 0)))) [(0, .ref (r 0)), (1, .int (nI q)), (2, .int (nI ro)), (4, .int 1), (5, .int (nI kk))] 72 []
                      refine z_iinc (pc := 72) (v := nI (kk + 1)) (lv' := [(0, .ref (r 0)), (1, .int (nI q)), (2, .int (nI ro)), (4, .int 1), (5, .int (nI (kk + 1)))]) F (j := 4) dX8_work_72 rfl (nI_1 _) (by decide) [1, 2, 3, 4, 0] rfl ?_
                      refine z_goto (pc := 75) (tgt := 49) F dX8_work_75 (by decide) ?_
                      exact ih49_1 (kk + 1) t' (rst S ro (cOp S kk) (za S 12 kk) (t'.length - 1) p) (by omega) (by omega) (by omega) (by rw [hm']; exact hty) (by rw [hm']; exact hrr) hok' (by omega)
                refine z_locals (lv' := [(0, .ref (r 0)), (1, .int (nI q)), (2, .int (nI ro)), (4, .int 1), (5, .int (nI (e 1)))]) [0, 1, 2, 4, 5] rfl ?_
                exact L49_1 _ (e 1) [] (wkp S ro e (wk0 S) 1) (Nat.lt_succ_self _) (Nat.le_refl _) m1 (hty4 1 (by decide)) rfl trivial (Nat.zero_le _)
            · have hlt := ngI (by omega) (by omega) c62
              obtain ⟨m, hm⟩ : ∃ m, e 1 - kk = m + 1 := ⟨e 1 - kk - 1, by omega⟩
              rw [hm] at hty hrr
              obtain ⟨t', hw, hty⟩ := tyr_s hty
              rw [rrn_s hw] at hrr
              obtain ⟨hok', hlen'⟩ := rsOk_step ho hro (num := za S 12 kk) hok hw
              have hm' : e 1 - (kk + 1) = m := by omega
              refine z_aload_n (pc := 65) F dX8_work_65 rfl 0 rfl ?_
              refine z_iload_n (pc := 66) F dX8_work_66 rfl 2 rfl ?_
              refine z_iload (pc := 67) F dX8_work_67 4 rfl ?_
              refine z_callVW (pc := 69) (q0 := 0) (ci := 8) (rest := []) F (c_X8_act l E r (zM S (zb S 17)) p ro kk (cOp S kk) t t' (by omega) hro (hcd kk (by omega) (by omega)) hw (by omega) hok ho) 2 ww_Model_126 (by decide +kernel) rfl ⟨Nat.le_of_ble_eq_true rfl, Nat.le_of_ble_eq_true rfl⟩ ⟨Nat.le_of_ble_eq_true rfl, Nat.le_of_ble_eq_true rfl⟩ rfl rfl rfl rfl (Nat.le_of_ble_eq_true rfl) dX8_work_69 (fun v_ w1_ hp => ?_)
              obtain ⟨rfl, rfl⟩ := hp
              show Z X (0) (0) (mw E r (mwk S (nI t'.length) ((rst S ro (cOp S kk) (za S 12 kk) (t'.length - 1) p).1) ((rst S ro (cOp S kk) (za S 12 kk) (t'.length - 1) p).2.1) ((rst S ro (cOp S kk) (za S 12 kk) (t'.length - 1) p).2.2) (zb S 17))) [(0, .ref (r 0)), (1, .int (nI q)), (2, .int (nI ro)), (4, .int 0), (5, .int (nI kk))] 72 []
              refine z_iinc (pc := 72) (v := nI (kk + 1)) (lv' := [(0, .ref (r 0)), (1, .int (nI q)), (2, .int (nI ro)), (4, .int 0), (5, .int (nI (kk + 1)))]) F (j := 4) dX8_work_72 rfl (nI_1 _) (by decide) [1, 2, 3, 4, 0] rfl ?_
              refine z_goto (pc := 75) (tgt := 49) F dX8_work_75 (by decide) ?_
              exact ih49_0 (kk + 1) t' (rst S ro (cOp S kk) (za S 12 kk) (t'.length - 1) p) (by omega) (by omega) (by omega) (by rw [hm']; exact hty) (by rw [hm']; exact hrr) hok' (by omega)
        refine z_locals (lv' := [(0, .ref (r 0)), (1, .int (nI q)), (2, .int (nI ro)), (4, .int 0), (5, .int (nI (e 0)))]) [0, 1, 2, 4, 5] rfl ?_
        exact L49_0 _ (e 0) [] (wkp S ro e (wk0 S) 0) (Nat.lt_succ_self _) (Nat.le_refl _) m0 (hty4 0 (by decide)) rfl trivial (Nat.zero_le _)
      · have hi6 := ngI (a := 60) (by decide) (by omega) c10
        refine z_aload_n (pc := 13) F dX8_work_13 rfl 0 rfl ?_
        refine z_get (pc := 14) (v := .ref (r 16)) F iX8 0 rfl rfl 22 (by decide) tw_880 rfl dX8_work_14 ?_
        refine z_iload_n (pc := 17) F dX8_work_17 rfl 3 rfl ?_
        refine z_iconst (pc := 18) (v := 0) F dX8_work_18 (by decide) ?_
        refine z_zastN (pc := 19) (ws' := mw E r (mwk S (zi S 5) 0 (zb S 15) (upd (hgz (za S 16) i) i 0) (zb S 17))) (f := hgz (za S 16) i) F 16 2 rfl rfl i rfl (by omega) (by decide) rfl dX8_work_19 rfl ?_
        refine z_iinc (pc := 20) (v := nI (i + 1)) (lv' := [(0, .ref (r 0)), (1, .int (nI q)), (2, .int (nI ro)), (3, .int (nI (i + 1)))]) F (j := 3) dX8_work_20 rfl (nI_1 _) (by decide) [1, 2, 3, 0] rfl ?_
        refine z_goto (pc := 23) (tgt := 7) F dX8_work_23 (by decide) ?_
        rw [hgz_s]; exact ih7 (i + 1) (by omega) (by omega)
  have L7z := L7 _ 0 (Nat.lt_succ_self _) (by decide)
  rw [hgz_0] at L7z
  exact L7z

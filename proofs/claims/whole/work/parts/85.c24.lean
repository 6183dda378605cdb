set_option maxHeartbeats 4000000 in
set_option maxRecDepth 100000 in
theorem c_X7_size_x (l : Launch) (E : zE) (r : Nat → Nat) (rs : Nat → Nat) (rt : Nat → Nat) (rr : Nat → Nat) (rq : Nat → Nat) (rw : Nat → Nat) (rk : Nat → Nat → Nat) (rp : Nat → Nat → Nat) (rg : Nat → Nat → Nat) (S : zS) (SQ : zS) (SS : zS) (ST : zS) (SR : zS) (SW : zS) (SK : Nat → zS) (SG : Nat → zS) (SP : Nat → zS) (xp : Value) (nq : Nat) (m : Nat) (D : Nat → Nat → zD) (G : Nat → List zNd) (lm : Nat → Nat) (q : Nat) (w : Int32) (hs : stOk SS m) (hn : nq ≤ 6) (hk : ∀ q : Nat, q < nq → kS (SK q) (SG q) (SP q) (D q) (G q) (lm q)) (hq : q < nq) (hw : w.toInt < 0 ∨ 2 < w.toInt) : Ct l yX7_size cX7_size 4 (some .int) ({ frames := 3, cells := 0, slots := 0, locals := 100 } : Room) E (lqw E r (rs 0) (rt 0) (rr 0) (rq 0) (mrd S (nI nq)) ++ qaw E rq (fun q => some (rk q 0)) SQ ++ sw E rs SS ++ tpw E rt ST ++ rdw E rr (rt 0) xp SR ++ wkw E rw (rs 0) SW ++ k6 E rk rp rg rs rw SK SG SP) [.ref (r 0), .int (nI q), .int w] (fun v_ w_ => v_ = some (.int (-1)) ∧ w_ = lqw E r (rs 0) (rt 0) (rr 0) (rq 0) (mrd S (nI nq)) ++ qaw E rq (fun q => some (rk q 0)) SQ ++ sw E rs SS ++ tpw E rt ST ++ rdw E rr (rt 0) xp SR ++ wkw E rw (rs 0) SW ++ k6 E rk rp rg rs rw SK SG SP) := by
  refine Ct.of (by decide) (Nat.le_of_ble_eq_true rfl) (lv := [(0, .ref (r 0)), (1, .int (nI q)), (2, .int w)]) rfl ?_
  intro X F hR
  have F : zF X l ({ frames := 3, cells := 0, slots := 0, locals := 100 } : Room) E cX7_size 4 "LiveQueries" := F
  refine z_aload_n (pc := 0) F dX7_size_0 rfl 0 rfl ?_
  refine z_iload_n (pc := 1) F dX7_size_1 rfl 1 rfl ?_
  refine z_callVW (pc := 2) (q0 := 0) (ci := 7) (rest := []) F (c_X7_isQuery l E r rs rt rr rq rw _ _ _ S SQ SS ST SR SW SK SG SP xp nq (nI q)) 1 ww_LQ_100 (by decide +kernel) rfl ⟨Nat.le_of_ble_eq_true rfl, Nat.le_of_ble_eq_true rfl⟩ ⟨Nat.le_of_ble_eq_true rfl, Nat.le_of_ble_eq_true rfl⟩ rfl rfl rfl rfl (Nat.le_of_ble_eq_true rfl) dX7_size_2 (fun v_ w1_ hp => ?_)
  obtain ⟨rfl, rfl⟩ := hp
  show Z X (0) (0) (lqw E r (rs 0) (rt 0) (rr 0) (rq 0) (mrd S (nI nq)) ++ qaw E rq (fun q => some (rk q 0)) SQ ++ sw E rs SS ++ tpw E rt ST ++ rdw E rr (rt 0) xp SR ++ wkw E rw (rs 0) SW ++ k6 E rk rp rg rs rw SK SG SP) [(0, .ref (r 0)), (1, .int (nI q)), (2, .int w)] 5 [.int (bI (isQ nq (nI q)))]
  rw [show (bI (isQ nq (nI q))) = 1 from (by rw [isQ_t hq (by omega)]; rfl)]
  refine z_if_ne (pc := 5) (tgt := 10) F dX7_size_5 (by decide) (fun _ => ?_) (fun h => absurd h (by decide))
  refine z_split q (by omega) ?_
  show Z X (0) (0) (lqw E r (rs 0) (rt 0) (rr 0) (rq 0) (mrd S (nI nq)) ++ qaw E rq (fun q => some (rk q 0)) SQ ++ sw E rs SS ++ tpw E rt ST ++ rdw E rr (rt 0) xp SR ++ wkw E rw (rs 0) SW ++ kpw E (rk q) ((rp q) 0) ((rg q) 0) (rs 0) (rw 0) (SK q) ++ grw E (rg q) (SG q) ++ plw E (rp q) (SP q) ++ k5 E rk rp rg rs rw SK SG SP q) [(0, .ref (r 0)), (1, .int (nI q)), (2, .int w)] 10 []
  refine z_aload_n (pc := 10) F dX7_size_10 rfl 0 rfl ?_
  refine z_get (pc := 11) (v := .ref (rq 0)) F iX7 0 rfl rfl 3 (by decide) tw_309 rfl dX7_size_11 ?_
  refine z_iload_n (pc := 14) F dX7_size_14 rfl 1 rfl ?_
  refine z_aaldN (pc := 15) (f := (fun q => some (rk q 0))) F 1 4 rfl rfl q rfl (by omega) (by decide) dX7_size_15 ?_
  show Z X (0) (0) (lqw E r (rs 0) (rt 0) (rr 0) (rq 0) (mrd S (nI nq)) ++ qaw E rq (fun q => some (rk q 0)) SQ ++ sw E rs SS ++ tpw E rt ST ++ rdw E rr (rt 0) xp SR ++ wkw E rw (rs 0) SW ++ kpw E (rk q) ((rp q) 0) ((rg q) 0) (rs 0) (rw 0) (SK q) ++ grw E (rg q) (SG q) ++ plw E (rp q) (SP q) ++ k5 E rk rp rg rs rw SK SG SP q) [(0, .ref (r 0)), (1, .int (nI q)), (2, .int w)] 16 [.ref ((rk q) 0)]
  refine z_astore_n (pc := 16) (lv' := [(0, .ref (r 0)), (1, .int (nI q)), (2, .int w), (3, .ref ((rk q) 0))]) F dX7_size_16 rfl (by decide) [1, 2, 3, 0] rfl ?_
  refine z_iload_n (pc := 17) F dX7_size_17 rfl 2 rfl ?_
  · refine z_tableOut (tgt := 62) (pc := 18) F dX7_size_18 hw (by decide) ?_
    refine z_iconst (pc := 62) (v := (-1)) F dX7_size_62 (by decide) ?_
    refine z_join6 q (by omega) ?_
    rw [updS_id SK q, updS_id SG q, updS_id SP q]
    exact z_iret (pc := 63) F hR dX7_size_63 (Nat.le_of_ble_eq_true rfl) (Nat.le_of_ble_eq_true rfl) ⟨rfl, rfl⟩
set_option maxHeartbeats 4000000 in
set_option maxRecDepth 100000 in
theorem c_X7_tellDifference (l : Launch) (E : zE) (r : Nat → Nat) (rs : Nat → Nat) (rt : Nat → Nat) (rr : Nat → Nat) (rq : Nat → Nat) (rw : Nat → Nat) (rk : Nat → Nat → Nat) (rp : Nat → Nat → Nat) (rg : Nat → Nat → Nat) (S : zS) (SQ : zS) (SS : zS) (ST : zS) (SR : zS) (SW : zS) (SK : Nat → zS) (SG : Nat → zS) (SP : Nat → zS) (xp : Value) (nq : Nat) (m : Nat) (D : Nat → Nat → zD) (G : Nat → List zNd) (lm : Nat → Nat) (q : Nat) (j : Nat) (w : Int32) (hq : q < 6) (hj : j < 2 ^ 31) : Ct l yX7_tellDifference cX7_tellDifference 4 (some .int) ({ frames := 3, cells := 0, slots := 0, locals := 100 } : Room) E (lqw E r (rs 0) (rt 0) (rr 0) (rq 0) (mrd S (nI nq)) ++ qaw E rq (fun q => some (rk q 0)) SQ ++ sw E rs SS ++ tpw E rt ST ++ rdw E rr (rt 0) xp SR ++ wkw E rw (rs 0) SW ++ k6 E rk rp rg rs rw SK SG SP) [.ref (r 0), .int (nI q), .int (nI j), .int w] (fun v_ w_ => v_ = some (.int (tlV (SK q) q j w)) ∧ w_ = lqw E r (rs 0) (rt 0) (rr 0) (rq 0) (mrd S (nI nq)) ++ qaw E rq (fun q => some (rk q 0)) SQ ++ sw E rs SS ++ tpw E rt ST ++ rdw E rr (rt 0) xp SR ++ wkw E rw (rs 0) SW ++ k6 E rk rp rg rs rw SK SG SP) := by
  refine Ct.of (by decide) (Nat.le_of_ble_eq_true rfl) (lv := [(0, .ref (r 0)), (1, .int (nI q)), (2, .int (nI j)), (3, .int w)]) rfl ?_
  intro X F hR
  have F : zF X l ({ frames := 3, cells := 0, slots := 0, locals := 100 } : Room) E cX7_tellDifference 4 "LiveQueries" := F
  refine z_iload_n (pc := 0) F dX7_tellDifference_0 rfl 3 rfl ?_
  rcases tw3 w with rfl | rfl | rfl | hw
  · refine z_tableIn (off := 27) (tgt := 28) (pc := 1) F dX7_tellDifference_1 (by decide) (by decide) (by decide) (by decide) ?_
    refine z_iload_n (pc := 28) F dX7_tellDifference_28 rfl 1 rfl ?_
    exact z_iret (pc := 29) F hR dX7_tellDifference_29 (Nat.le_of_ble_eq_true rfl) (Nat.le_of_ble_eq_true rfl) ⟨by rw [tlV, if_pos rfl], rfl⟩
  · refine z_tableIn (off := 29) (tgt := 30) (pc := 1) F dX7_tellDifference_1 (by decide) (by decide) (by decide) (by decide) ?_
    refine z_split q (by omega) ?_
    show Z X (0) (0) (lqw E r (rs 0) (rt 0) (rr 0) (rq 0) (mrd S (nI nq)) ++ qaw E rq (fun q => some (rk q 0)) SQ ++ sw E rs SS ++ tpw E rt ST ++ rdw E rr (rt 0) xp SR ++ wkw E rw (rs 0) SW ++ kpw E (rk q) ((rp q) 0) ((rg q) 0) (rs 0) (rw 0) (SK q) ++ grw E (rg q) (SG q) ++ plw E (rp q) (SP q) ++ k5 E rk rp rg rs rw SK SG SP q) [(0, .ref (r 0)), (1, .int (nI q)), (2, .int (nI j)), (3, .int 1)] 30 []
    refine z_aload_n (pc := 30) F dX7_tellDifference_30 rfl 0 rfl ?_
    refine z_get (pc := 31) (v := .ref (rq 0)) F iX7 0 rfl rfl 3 (by decide) tw_309 rfl dX7_tellDifference_31 ?_
    refine z_iload_n (pc := 34) F dX7_tellDifference_34 rfl 1 rfl ?_
    refine z_aaldN (pc := 35) (f := (fun q => some (rk q 0))) F 1 4 rfl rfl q rfl (by omega) (by decide) dX7_tellDifference_35 ?_
    show Z X (0) (0) (lqw E r (rs 0) (rt 0) (rr 0) (rq 0) (mrd S (nI nq)) ++ qaw E rq (fun q => some (rk q 0)) SQ ++ sw E rs SS ++ tpw E rt ST ++ rdw E rr (rt 0) xp SR ++ wkw E rw (rs 0) SW ++ kpw E (rk q) ((rp q) 0) ((rg q) 0) (rs 0) (rw 0) (SK q) ++ grw E (rg q) (SG q) ++ plw E (rp q) (SP q) ++ k5 E rk rp rg rs rw SK SG SP q) [(0, .ref (r 0)), (1, .int (nI q)), (2, .int (nI j)), (3, .int 1)] 36 [.ref ((rk q) 0)]
    refine z_iload_n (pc := 36) F dX7_tellDifference_36 rfl 2 rfl ?_
    refine z_blk [lqw E r (rs 0) (rt 0) (rr 0) (rq 0) (mrd S (nI nq)), qaw E rq (fun q => some (rk q 0)) SQ, sw E rs SS, tpw E rt ST, rdw E rr (rt 0) xp SR, wkw E rw (rs 0) SW, kpw E (rk q) ((rp q) 0) ((rg q) 0) (rs 0) (rw 0) (mkp (SK q) (zi (SK q) 0) (zl (SK q) 0) (zl (SK q) 1) (zl (SK q) 2) (zb (SK q) 1) (za (SK q) 2) (zb (SK q) 3) (zb (SK q) 4) (zb (SK q) 5) (za (SK q) 6)), grw E (rg q) (SG q), plw E (rp q) (SP q), k5 E rk rp rg rs rw SK SG SP q] [kpw E (rk q) ((rp q) 0) ((rg q) 0) (rs 0) (rw 0) (mkp (SK q) (zi (SK q) 0) (zl (SK q) 0) (zl (SK q) 1) (zl (SK q) 2) (zb (SK q) 1) (za (SK q) 2) (zb (SK q) 3) (zb (SK q) 4) (zb (SK q) 5) (za (SK q) 6)), lqw E r (rs 0) (rt 0) (rr 0) (rq 0) (mrd S (nI nq)), qaw E rq (fun q => some (rk q 0)) SQ, sw E rs SS, tpw E rt ST, rdw E rr (rt 0) xp SR, wkw E rw (rs 0) SW, grw E (rg q) (SG q), plw E (rp q) (SP q), k5 E rk rp rg rs rw SK SG SP q] [6, 0, 1, 2, 3, 4, 5, 7, 8, 9] 10 rfl (by decide) rfl ?_
    show Z X (0) (0) (kpw E (rk q) ((rp q) 0) ((rg q) 0) (rs 0) (rw 0) (mkp (SK q) (zi (SK q) 0) (zl (SK q) 0) (zl (SK q) 1) (zl (SK q) 2) (zb (SK q) 1) (za (SK q) 2) (zb (SK q) 3) (zb (SK q) 4) (zb (SK q) 5) (za (SK q) 6)) ++ lqw E r (rs 0) (rt 0) (rr 0) (rq 0) (mrd S (nI nq)) ++ qaw E rq (fun q => some (rk q 0)) SQ ++ sw E rs SS ++ tpw E rt ST ++ rdw E rr (rt 0) xp SR ++ wkw E rw (rs 0) SW ++ grw E (rg q) (SG q) ++ plw E (rp q) (SP q) ++ k5 E rk rp rg rs rw SK SG SP q) [(0, .ref (r 0)), (1, .int (nI q)), (2, .int (nI j)), (3, .int 1)] 37 [.int (nI j), .ref ((rk q) 0)]
    refine z_perm (ws' := (kpw E (rk q) ((rp q) 0) ((rg q) 0) (rs 0) (rw 0) (mkp (SK q) (zi (SK q) 0) (zl (SK q) 0) (zl (SK q) 1) (zl (SK q) 2) (zb (SK q) 1) (za (SK q) 2) (zb (SK q) 3) (zb (SK q) 4) (zb (SK q) 5) (za (SK q) 6))) ++ (lqw E r (rs 0) (rt 0) (rr 0) (rq 0) (mrd S (nI nq)) ++ qaw E rq (fun q => some (rk q 0)) SQ ++ sw E rs SS ++ tpw E rt ST ++ rdw E rr (rt 0) xp SR ++ wkw E rw (rs 0) SW ++ grw E (rg q) (SG q) ++ plw E (rp q) (SP q) ++ k5 E rk rp rg rs rw SK SG SP q)) (List.Perm.of_eq (by first | (simp only [List.append_assoc]; done) | (simp only [List.append_assoc]; rfl))) ?_
    refine z_callVF (pc := 37) (q0 := 0) (ci := 1) (wr := lqw E r (rs 0) (rt 0) (rr 0) (rq 0) (mrd S (nI nq)) ++ qaw E rq (fun q => some (rk q 0)) SQ ++ sw E rs SS ++ tpw E rt ST ++ rdw E rr (rt 0) xp SR ++ wkw E rw (rs 0) SW ++ grw E (rg q) (SG q) ++ plw E (rp q) (SP q) ++ k5 E rk rp rg rs rw SK SG SP q) (rest := []) F (c_X1_differenceObject l E (rk q) _ _ _ _ (SK q) (zi (SK q) 0) (zl (SK q) 0) (zl (SK q) 1) (zl (SK q) 2) (zb (SK q) 1) (za (SK q) 2) (zb (SK q) 3) (zb (SK q) 4) (zb (SK q) 5) (za (SK q) 6) j hj) 1 ww_LQ_194 (by decide +kernel) rfl ⟨Nat.le_of_ble_eq_true rfl, Nat.le_of_ble_eq_true rfl⟩ ⟨Nat.le_of_ble_eq_true rfl, Nat.le_of_ble_eq_true rfl⟩ rfl rfl rfl rfl (Nat.le_of_ble_eq_true rfl) dX7_tellDifference_37 (fun v_ w1_ hp => ?_)
    obtain ⟨rfl, rfl⟩ := hp
    refine z_perm (ws' := kpw E (rk q) ((rp q) 0) ((rg q) 0) (rs 0) (rw 0) (SK q) ++ lqw E r (rs 0) (rt 0) (rr 0) (rq 0) (mrd S (nI nq)) ++ qaw E rq (fun q => some (rk q 0)) SQ ++ sw E rs SS ++ tpw E rt ST ++ rdw E rr (rt 0) xp SR ++ wkw E rw (rs 0) SW ++ grw E (rg q) (SG q) ++ plw E (rp q) (SP q) ++ k5 E rk rp rg rs rw SK SG SP q) (List.Perm.of_eq (by first | (simp only [List.append_assoc]; done) | (simp only [List.append_assoc]; rfl))) ?_
    show Z X (0) (0) (kpw E (rk q) ((rp q) 0) ((rg q) 0) (rs 0) (rw 0) (SK q) ++ lqw E r (rs 0) (rt 0) (rr 0) (rq 0) (mrd S (nI nq)) ++ qaw E rq (fun q => some (rk q 0)) SQ ++ sw E rs SS ++ tpw E rt ST ++ rdw E rr (rt 0) xp SR ++ wkw E rw (rs 0) SW ++ grw E (rg q) (SG q) ++ plw E (rp q) (SP q) ++ k5 E rk rp rg rs rw SK SG SP q) [(0, .ref (r 0)), (1, .int (nI q)), (2, .int (nI j)), (3, .int 1)] 40 [.int (oI (if ctB (uN (zl (SK q) 1)).testBit 64 ≤ j then btA (bitL (zl (SK q) 2)) (j - ctB (uN (zl (SK q) 1)).testBit 64) 60 0 else btA (bitL (zl (SK q) 1)) j 60 0))]
    refine z_blk [kpw E (rk q) ((rp q) 0) ((rg q) 0) (rs 0) (rw 0) (SK q), lqw E r (rs 0) (rt 0) (rr 0) (rq 0) (mrd S (nI nq)), qaw E rq (fun q => some (rk q 0)) SQ, sw E rs SS, tpw E rt ST, rdw E rr (rt 0) xp SR, wkw E rw (rs 0) SW, grw E (rg q) (SG q), plw E (rp q) (SP q), k5 E rk rp rg rs rw SK SG SP q] [lqw E r (rs 0) (rt 0) (rr 0) (rq 0) (mrd S (nI nq)), qaw E rq (fun q => some (rk q 0)) SQ, sw E rs SS, tpw E rt ST, rdw E rr (rt 0) xp SR, wkw E rw (rs 0) SW, kpw E (rk q) ((rp q) 0) ((rg q) 0) (rs 0) (rw 0) (SK q), grw E (rg q) (SG q), plw E (rp q) (SP q), k5 E rk rp rg rs rw SK SG SP q] [1, 2, 3, 4, 5, 6, 0, 7, 8, 9] 10 rfl (by decide) rfl ?_
    show Z X (0) (0) (lqw E r (rs 0) (rt 0) (rr 0) (rq 0) (mrd S (nI nq)) ++ qaw E rq (fun q => some (rk q 0)) SQ ++ sw E rs SS ++ tpw E rt ST ++ rdw E rr (rt 0) xp SR ++ wkw E rw (rs 0) SW ++ kpw E (rk q) ((rp q) 0) ((rg q) 0) (rs 0) (rw 0) (SK q) ++ grw E (rg q) (SG q) ++ plw E (rp q) (SP q) ++ k5 E rk rp rg rs rw SK SG SP q) [(0, .ref (r 0)), (1, .int (nI q)), (2, .int (nI j)), (3, .int 1)] 40 [.int (oI (if ctB (uN (zl (SK q) 1)).testBit 64 ≤ j then btA (bitL (zl (SK q) 2)) (j - ctB (uN (zl (SK q) 1)).testBit 64) 60 0 else btA (bitL (zl (SK q) 1)) j 60 0))]
    refine z_join6 q (by omega) ?_
    rw [updS_id SK q, updS_id SG q, updS_id SP q]
    exact z_iret (pc := 40) F hR dX7_tellDifference_40 (Nat.le_of_ble_eq_true rfl) (Nat.le_of_ble_eq_true rfl) ⟨(by rw [show tlV (SK q) q j 1 = oI (dfO (SK q) j) from by rw [tlV, if_neg (by decide), if_pos rfl]]; rfl), rfl⟩
  · refine z_tableIn (off := 40) (tgt := 41) (pc := 1) F dX7_tellDifference_1 (by decide) (by decide) (by decide) (by decide) ?_
    refine z_split q (by omega) ?_
    show Z X (0) (0) (lqw E r (rs 0) (rt 0) (rr 0) (rq 0) (mrd S (nI nq)) ++ qaw E rq (fun q => some (rk q 0)) SQ ++ sw E rs SS ++ tpw E rt ST ++ rdw E rr (rt 0) xp SR ++ wkw E rw (rs 0) SW ++ kpw E (rk q) ((rp q) 0) ((rg q) 0) (rs 0) (rw 0) (SK q) ++ grw E (rg q) (SG q) ++ plw E (rp q) (SP q) ++ k5 E rk rp rg rs rw SK SG SP q) [(0, .ref (r 0)), (1, .int (nI q)), (2, .int (nI j)), (3, .int 2)] 41 []
    refine z_aload_n (pc := 41) F dX7_tellDifference_41 rfl 0 rfl ?_
    refine z_get (pc := 42) (v := .ref (rq 0)) F iX7 0 rfl rfl 3 (by decide) tw_309 rfl dX7_tellDifference_42 ?_
    refine z_iload_n (pc := 45) F dX7_tellDifference_45 rfl 1 rfl ?_
    refine z_aaldN (pc := 46) (f := (fun q => some (rk q 0))) F 1 4 rfl rfl q rfl (by omega) (by decide) dX7_tellDifference_46 ?_
    show Z X (0) (0) (lqw E r (rs 0) (rt 0) (rr 0) (rq 0) (mrd S (nI nq)) ++ qaw E rq (fun q => some (rk q 0)) SQ ++ sw E rs SS ++ tpw E rt ST ++ rdw E rr (rt 0) xp SR ++ wkw E rw (rs 0) SW ++ kpw E (rk q) ((rp q) 0) ((rg q) 0) (rs 0) (rw 0) (SK q) ++ grw E (rg q) (SG q) ++ plw E (rp q) (SP q) ++ k5 E rk rp rg rs rw SK SG SP q) [(0, .ref (r 0)), (1, .int (nI q)), (2, .int (nI j)), (3, .int 2)] 47 [.ref ((rk q) 0)]
    refine z_iload_n (pc := 47) F dX7_tellDifference_47 rfl 2 rfl ?_
    refine z_blk [lqw E r (rs 0) (rt 0) (rr 0) (rq 0) (mrd S (nI nq)), qaw E rq (fun q => some (rk q 0)) SQ, sw E rs SS, tpw E rt ST, rdw E rr (rt 0) xp SR, wkw E rw (rs 0) SW, kpw E (rk q) ((rp q) 0) ((rg q) 0) (rs 0) (rw 0) (mkp (SK q) (zi (SK q) 0) (zl (SK q) 0) (zl (SK q) 1) (zl (SK q) 2) (zb (SK q) 1) (za (SK q) 2) (zb (SK q) 3) (zb (SK q) 4) (zb (SK q) 5) (za (SK q) 6)), grw E (rg q) (SG q), plw E (rp q) (SP q), k5 E rk rp rg rs rw SK SG SP q] [kpw E (rk q) ((rp q) 0) ((rg q) 0) (rs 0) (rw 0) (mkp (SK q) (zi (SK q) 0) (zl (SK q) 0) (zl (SK q) 1) (zl (SK q) 2) (zb (SK q) 1) (za (SK q) 2) (zb (SK q) 3) (zb (SK q) 4) (zb (SK q) 5) (za (SK q) 6)), lqw E r (rs 0) (rt 0) (rr 0) (rq 0) (mrd S (nI nq)), qaw E rq (fun q => some (rk q 0)) SQ, sw E rs SS, tpw E rt ST, rdw E rr (rt 0) xp SR, wkw E rw (rs 0) SW, grw E (rg q) (SG q), plw E (rp q) (SP q), k5 E rk rp rg rs rw SK SG SP q] [6, 0, 1, 2, 3, 4, 5, 7, 8, 9] 10 rfl (by decide) rfl ?_
    show Z X (0) (0) (kpw E (rk q) ((rp q) 0) ((rg q) 0) (rs 0) (rw 0) (mkp (SK q) (zi (SK q) 0) (zl (SK q) 0) (zl (SK q) 1) (zl (SK q) 2) (zb (SK q) 1) (za (SK q) 2) (zb (SK q) 3) (zb (SK q) 4) (zb (SK q) 5) (za (SK q) 6)) ++ lqw E r (rs 0) (rt 0) (rr 0) (rq 0) (mrd S (nI nq)) ++ qaw E rq (fun q => some (rk q 0)) SQ ++ sw E rs SS ++ tpw E rt ST ++ rdw E rr (rt 0) xp SR ++ wkw E rw (rs 0) SW ++ grw E (rg q) (SG q) ++ plw E (rp q) (SP q) ++ k5 E rk rp rg rs rw SK SG SP q) [(0, .ref (r 0)), (1, .int (nI q)), (2, .int (nI j)), (3, .int 2)] 48 [.int (nI j), .ref ((rk q) 0)]
    refine z_perm (ws' := (kpw E (rk q) ((rp q) 0) ((rg q) 0) (rs 0) (rw 0) (mkp (SK q) (zi (SK q) 0) (zl (SK q) 0) (zl (SK q) 1) (zl (SK q) 2) (zb (SK q) 1) (za (SK q) 2) (zb (SK q) 3) (zb (SK q) 4) (zb (SK q) 5) (za (SK q) 6))) ++ (lqw E r (rs 0) (rt 0) (rr 0) (rq 0) (mrd S (nI nq)) ++ qaw E rq (fun q => some (rk q 0)) SQ ++ sw E rs SS ++ tpw E rt ST ++ rdw E rr (rt 0) xp SR ++ wkw E rw (rs 0) SW ++ grw E (rg q) (SG q) ++ plw E (rp q) (SP q) ++ k5 E rk rp rg rs rw SK SG SP q)) (List.Perm.of_eq (by first | (simp only [List.append_assoc]; done) | (simp only [List.append_assoc]; rfl))) ?_
    refine z_callVF (pc := 48) (q0 := 0) (ci := 1) (wr := lqw E r (rs 0) (rt 0) (rr 0) (rq 0) (mrd S (nI nq)) ++ qaw E rq (fun q => some (rk q 0)) SQ ++ sw E rs SS ++ tpw E rt ST ++ rdw E rr (rt 0) xp SR ++ wkw E rw (rs 0) SW ++ grw E (rg q) (SG q) ++ plw E (rp q) (SP q) ++ k5 E rk rp rg rs rw SK SG SP q) (rest := []) F (c_X1_isArrival l E (rk q) _ _ _ _ (SK q) (zi (SK q) 0) (zl (SK q) 0) (zl (SK q) 1) (zl (SK q) 2) (zb (SK q) 1) (za (SK q) 2) (zb (SK q) 3) (zb (SK q) 4) (zb (SK q) 5) (za (SK q) 6) j hj) 1 ww_LQ_197 (by decide +kernel) rfl ⟨Nat.le_of_ble_eq_true rfl, Nat.le_of_ble_eq_true rfl⟩ ⟨Nat.le_of_ble_eq_true rfl, Nat.le_of_ble_eq_true rfl⟩ rfl rfl rfl rfl (Nat.le_of_ble_eq_true rfl) dX7_tellDifference_48 (fun v_ w1_ hp => ?_)
    obtain ⟨rfl, rfl⟩ := hp
    refine z_perm (ws' := kpw E (rk q) ((rp q) 0) ((rg q) 0) (rs 0) (rw 0) (SK q) ++ lqw E r (rs 0) (rt 0) (rr 0) (rq 0) (mrd S (nI nq)) ++ qaw E rq (fun q => some (rk q 0)) SQ ++ sw E rs SS ++ tpw E rt ST ++ rdw E rr (rt 0) xp SR ++ wkw E rw (rs 0) SW ++ grw E (rg q) (SG q) ++ plw E (rp q) (SP q) ++ k5 E rk rp rg rs rw SK SG SP q) (List.Perm.of_eq (by first | (simp only [List.append_assoc]; done) | (simp only [List.append_assoc]; rfl))) ?_
    show Z X (0) (0) (kpw E (rk q) ((rp q) 0) ((rg q) 0) (rs 0) (rw 0) (SK q) ++ lqw E r (rs 0) (rt 0) (rr 0) (rq 0) (mrd S (nI nq)) ++ qaw E rq (fun q => some (rk q 0)) SQ ++ sw E rs SS ++ tpw E rt ST ++ rdw E rr (rt 0) xp SR ++ wkw E rw (rs 0) SW ++ grw E (rg q) (SG q) ++ plw E (rp q) (SP q) ++ k5 E rk rp rg rs rw SK SG SP q) [(0, .ref (r 0)), (1, .int (nI q)), (2, .int (nI j)), (3, .int 2)] 51 [.int (bI (decide (ctB (uN (zl (SK q) 1)).testBit 64 ≤ j)))]
    refine z_if_eq (pc := 51) (tgt := 58) F dX7_tellDifference_51 (by decide) (fun c51 => ?_) (fun c51 => ?_)
    · replace c51 := bI_f c51
      refine z_iconst (pc := 58) (v := 0) F dX7_tellDifference_58 (by decide) ?_
      refine z_blk [kpw E (rk q) ((rp q) 0) ((rg q) 0) (rs 0) (rw 0) (SK q), lqw E r (rs 0) (rt 0) (rr 0) (rq 0) (mrd S (nI nq)), qaw E rq (fun q => some (rk q 0)) SQ, sw E rs SS, tpw E rt ST, rdw E rr (rt 0) xp SR, wkw E rw (rs 0) SW, grw E (rg q) (SG q), plw E (rp q) (SP q), k5 E rk rp rg rs rw SK SG SP q] [lqw E r (rs 0) (rt 0) (rr 0) (rq 0) (mrd S (nI nq)), qaw E rq (fun q => some (rk q 0)) SQ, sw E rs SS, tpw E rt ST, rdw E rr (rt 0) xp SR, wkw E rw (rs 0) SW, kpw E (rk q) ((rp q) 0) ((rg q) 0) (rs 0) (rw 0) (SK q), grw E (rg q) (SG q), plw E (rp q) (SP q), k5 E rk rp rg rs rw SK SG SP q] [1, 2, 3, 4, 5, 6, 0, 7, 8, 9] 10 rfl (by decide) rfl ?_
      show Z X (0) (0) (lqw E r (rs 0) (rt 0) (rr 0) (rq 0) (mrd S (nI nq)) ++ qaw E rq (fun q => some (rk q 0)) SQ ++ sw E rs SS ++ tpw E rt ST ++ rdw E rr (rt 0) xp SR ++ wkw E rw (rs 0) SW ++ kpw E (rk q) ((rp q) 0) ((rg q) 0) (rs 0) (rw 0) (SK q) ++ grw E (rg q) (SG q) ++ plw E (rp q) (SP q) ++ k5 E rk rp rg rs rw SK SG SP q) [(0, .ref (r 0)), (1, .int (nI q)), (2, .int (nI j)), (3, .int 2)] 59 [.int 0]
      refine z_join6 q (by omega) ?_
      rw [updS_id SK q, updS_id SG q, updS_id SP q]
      exact z_iret (pc := 59) F hR dX7_tellDifference_59 (Nat.le_of_ble_eq_true rfl) (Nat.le_of_ble_eq_true rfl) ⟨by rw [tlV, if_neg (by decide), if_neg (by decide), if_pos rfl, c51]; rfl, rfl⟩
    · replace c51 := bI_t c51
      refine z_iconst (pc := 54) (v := 1) F dX7_tellDifference_54 (by decide) ?_
      refine z_goto (pc := 55) (tgt := 59) F dX7_tellDifference_55 (by decide) ?_
      refine z_blk [kpw E (rk q) ((rp q) 0) ((rg q) 0) (rs 0) (rw 0) (SK q), lqw E r (rs 0) (rt 0) (rr 0) (rq 0) (mrd S (nI nq)), qaw E rq (fun q => some (rk q 0)) SQ, sw E rs SS, tpw E rt ST, rdw E rr (rt 0) xp SR, wkw E rw (rs 0) SW, grw E (rg q) (SG q), plw E (rp q) (SP q), k5 E rk rp rg rs rw SK SG SP q] [lqw E r (rs 0) (rt 0) (rr 0) (rq 0) (mrd S (nI nq)), qaw E rq (fun q => some (rk q 0)) SQ, sw E rs SS, tpw E rt ST, rdw E rr (rt 0) xp SR, wkw E rw (rs 0) SW, kpw E (rk q) ((rp q) 0) ((rg q) 0) (rs 0) (rw 0) (SK q), grw E (rg q) (SG q), plw E (rp q) (SP q), k5 E rk rp rg rs rw SK SG SP q] [1, 2, 3, 4, 5, 6, 0, 7, 8, 9] 10 rfl (by decide) rfl ?_
      show Z X (0) (0) (lqw E r (rs 0) (rt 0) (rr 0) (rq 0) (mrd S (nI nq)) ++ qaw E rq (fun q => some (rk q 0)) SQ ++ sw E rs SS ++ tpw E rt ST ++ rdw E rr (rt 0) xp SR ++ wkw E rw (rs 0) SW ++ kpw E (rk q) ((rp q) 0) ((rg q) 0) (rs 0) (rw 0) (SK q) ++ grw E (rg q) (SG q) ++ plw E (rp q) (SP q) ++ k5 E rk rp rg rs rw SK SG SP q) [(0, .ref (r 0)), (1, .int (nI q)), (2, .int (nI j)), (3, .int 2)] 59 [.int 1]
      refine z_join6 q (by omega) ?_
      rw [updS_id SK q, updS_id SG q, updS_id SP q]
      exact z_iret (pc := 59) F hR dX7_tellDifference_59 (Nat.le_of_ble_eq_true rfl) (Nat.le_of_ble_eq_true rfl) ⟨by rw [tlV, if_neg (by decide), if_neg (by decide), if_pos rfl, c51]; rfl, rfl⟩
  · refine z_tableOut (tgt := 60) (pc := 1) F dX7_tellDifference_1 hw (by decide) ?_
    refine z_iconst (pc := 60) (v := (-1)) F dX7_tellDifference_60 (by decide) ?_
    exact z_iret (pc := 61) F hR dX7_tellDifference_61 (Nat.le_of_ble_eq_true rfl) (Nat.le_of_ble_eq_true rfl) ⟨by obtain ⟨a1, a2, a3⟩ := tw_out hw; rw [tlV, if_neg a1, if_neg a2, if_neg a3], rfl⟩
set_option maxHeartbeats 4000000 in
set_option maxRecDepth 100000 in
theorem c_X7_differ_y (l : Launch) (E : zE) (r : Nat → Nat) (rs : Nat → Nat) (rt : Nat → Nat) (rr : Nat → Nat) (rq : Nat → Nat) (rw : Nat → Nat) (rk : Nat → Nat → Nat) (rp : Nat → Nat → Nat) (rg : Nat → Nat → Nat) (S : zS) (SQ : zS) (SS : zS) (ST : zS) (SR : zS) (SW : zS) (SK : Nat → zS) (SG : Nat → zS) (SP : Nat → zS) (xp : Value) (nq : Nat) (m : Nat) (D : Nat → Nat → zD) (G : Nat → List zNd) (lm : Nat → Nat) (k : Nat) (w : Int32) (hn : nq ≤ 6) (hk2 : k < 2 ^ 31) : Ct l yX7_differ cX7_differ 6 (some .int) ({ frames := 4, cells := 0, slots := 0, locals := 140 } : Room) E (lqw E r (rs 0) (rt 0) (rr 0) (rq 0) (mrd S (nI nq)) ++ qaw E rq (fun q => some (rk q 0)) SQ ++ sw E rs SS ++ tpw E rt ST ++ rdw E rr (rt 0) xp SR ++ wkw E rw (rs 0) SW ++ k6 E rk rp rg rs rw SK SG SP) [.ref (r 0), .int (nI k), .int w] (fun v_ w_ => v_ = some (.int (dfR_ SK nq k w)) ∧ w_ = lqw E r (rs 0) (rt 0) (rr 0) (rq 0) (mrd S (nI nq)) ++ qaw E rq (fun q => some (rk q 0)) SQ ++ sw E rs SS ++ tpw E rt ST ++ rdw E rr (rt 0) xp SR ++ wkw E rw (rs 0) SW ++ k6 E rk rp rg rs rw SK SG SP) := by
  refine Ct.of (by decide) (Nat.le_of_ble_eq_true rfl) (lv := [(0, .ref (r 0)), (1, .int (nI k)), (2, .int w)]) rfl ?_
  intro X F hR
  have F : zF X l ({ frames := 4, cells := 0, slots := 0, locals := 140 } : Room) E cX7_differ 6 "LiveQueries" := F
  refine z_iload_n (pc := 0) F dX7_differ_0 rfl 1 rfl ?_
  refine z_if_ge (pc := 1) (tgt := 6) F dX7_differ_1 (by decide) (fun c1 => ?_) (fun c1 => absurd (i0n (nI_pos hk2)) c1)
  refine z_iload_n (pc := 6) F dX7_differ_6 rfl 1 rfl ?_
  refine z_istore_n (pc := 7) (lv' := [(0, .ref (r 0)), (1, .int (nI k)), (2, .int w), (3, .int (nI k))]) F dX7_differ_7 rfl (by decide) [1, 2, 3, 0] rfl ?_
  refine z_iconst (pc := 8) (v := 0) F dX7_differ_8 (by decide) ?_
  refine z_istore (pc := 9) (lv' := [(0, .ref (r 0)), (1, .int (nI k)), (2, .int w), (3, .int (nI k)), (4, .int 0)]) F dX7_differ_9 (by decide) [1, 2, 3, 4, 0] rfl ?_
  have L11 : ∀ (N : Nat) (q : Nat) (j : Nat), (nq - q) < N → (q ≤ nq) → (j < 2 ^ 31) → (dfA SK (nq - q) q j = dfA SK nq 0 k) → Z X (0) (0) (lqw E r (rs 0) (rt 0) (rr 0) (rq 0) (mrd S (nI nq)) ++ qaw E rq (fun q => some (rk q 0)) SQ ++ sw E rs SS ++ tpw E rt ST ++ rdw E rr (rt 0) xp SR ++ wkw E rw (rs 0) SW ++ k6 E rk rp rg rs rw SK SG SP) [(0, .ref (r 0)), (1, .int (nI k)), (2, .int w), (3, .int (nI j)), (4, .int (nI q))] 11 [] := by
    intro N
    induction N with
    | zero => intro q j hN; exact absurd hN (Nat.not_lt_zero _)
    | succ N ih11 =>
      intro q j hN hq hj hd
      refine z_iload (pc := 11) F dX7_differ_11 4 rfl ?_
      refine z_aload_n (pc := 13) F dX7_differ_13 rfl 0 rfl ?_
      refine z_get (pc := 14) (v := .int (nI nq)) F iX7 0 rfl rfl 4 (by decide) tw_310 rfl dX7_differ_14 ?_
      refine z_icmp_ge (pc := 17) (tgt := 58) F dX7_differ_17 (by decide) (fun c17 => ?_) (fun c17 => ?_)
      · have hqe : q = nq := Nat.le_antisymm hq (gI (by omega) (by omega) c17)
        subst hqe
        rw [Nat.sub_self, show dfA SK 0 q j = none from rfl] at hd
        refine z_iconst (pc := 58) (v := (-1)) F dX7_differ_58 (by decide) ?_
        exact z_iret (pc := 59) F hR dX7_differ_59 (Nat.le_of_ble_eq_true rfl) (Nat.le_of_ble_eq_true rfl) ⟨by rw [dfR_, ← hd], rfl⟩
      · have hql := ngI (by omega) (by omega) c17
        rw [show nq - q = (nq - (q + 1)) + 1 by omega] at hd
        have hct := ctS_le (SK q)
        refine z_split q (by omega) ?_
        show Z X (0) (0) (lqw E r (rs 0) (rt 0) (rr 0) (rq 0) (mrd S (nI nq)) ++ qaw E rq (fun q => some (rk q 0)) SQ ++ sw E rs SS ++ tpw E rt ST ++ rdw E rr (rt 0) xp SR ++ wkw E rw (rs 0) SW ++ kpw E (rk q) ((rp q) 0) ((rg q) 0) (rs 0) (rw 0) (SK q) ++ grw E (rg q) (SG q) ++ plw E (rp q) (SP q) ++ k5 E rk rp rg rs rw SK SG SP q) [(0, .ref (r 0)), (1, .int (nI k)), (2, .int w), (3, .int (nI j)), (4, .int (nI q))] 20 []
        refine z_aload_n (pc := 20) F dX7_differ_20 rfl 0 rfl ?_
        refine z_get (pc := 21) (v := .ref (rq 0)) F iX7 0 rfl rfl 3 (by decide) tw_309 rfl dX7_differ_21 ?_
        refine z_iload (pc := 24) F dX7_differ_24 4 rfl ?_
        refine z_aaldN (pc := 26) (f := (fun q => some (rk q 0))) F 1 4 rfl rfl q rfl (by omega) (by decide) dX7_differ_26 ?_
        show Z X (0) (0) (lqw E r (rs 0) (rt 0) (rr 0) (rq 0) (mrd S (nI nq)) ++ qaw E rq (fun q => some (rk q 0)) SQ ++ sw E rs SS ++ tpw E rt ST ++ rdw E rr (rt 0) xp SR ++ wkw E rw (rs 0) SW ++ kpw E (rk q) ((rp q) 0) ((rg q) 0) (rs 0) (rw 0) (SK q) ++ grw E (rg q) (SG q) ++ plw E (rp q) (SP q) ++ k5 E rk rp rg rs rw SK SG SP q) [(0, .ref (r 0)), (1, .int (nI k)), (2, .int w), (3, .int (nI j)), (4, .int (nI q))] 27 [.ref ((rk q) 0)]
        refine z_blk [lqw E r (rs 0) (rt 0) (rr 0) (rq 0) (mrd S (nI nq)), qaw E rq (fun q => some (rk q 0)) SQ, sw E rs SS, tpw E rt ST, rdw E rr (rt 0) xp SR, wkw E rw (rs 0) SW, kpw E (rk q) ((rp q) 0) ((rg q) 0) (rs 0) (rw 0) (mkp (SK q) (zi (SK q) 0) (zl (SK q) 0) (zl (SK q) 1) (zl (SK q) 2) (zb (SK q) 1) (za (SK q) 2) (zb (SK q) 3) (zb (SK q) 4) (zb (SK q) 5) (za (SK q) 6)), grw E (rg q) (SG q), plw E (rp q) (SP q), k5 E rk rp rg rs rw SK SG SP q] [kpw E (rk q) ((rp q) 0) ((rg q) 0) (rs 0) (rw 0) (mkp (SK q) (zi (SK q) 0) (zl (SK q) 0) (zl (SK q) 1) (zl (SK q) 2) (zb (SK q) 1) (za (SK q) 2) (zb (SK q) 3) (zb (SK q) 4) (zb (SK q) 5) (za (SK q) 6)), lqw E r (rs 0) (rt 0) (rr 0) (rq 0) (mrd S (nI nq)), qaw E rq (fun q => some (rk q 0)) SQ, sw E rs SS, tpw E rt ST, rdw E rr (rt 0) xp SR, wkw E rw (rs 0) SW, grw E (rg q) (SG q), plw E (rp q) (SP q), k5 E rk rp rg rs rw SK SG SP q] [6, 0, 1, 2, 3, 4, 5, 7, 8, 9] 10 rfl (by decide) rfl ?_
        show Z X (0) (0) (kpw E (rk q) ((rp q) 0) ((rg q) 0) (rs 0) (rw 0) (mkp (SK q) (zi (SK q) 0) (zl (SK q) 0) (zl (SK q) 1) (zl (SK q) 2) (zb (SK q) 1) (za (SK q) 2) (zb (SK q) 3) (zb (SK q) 4) (zb (SK q) 5) (za (SK q) 6)) ++ lqw E r (rs 0) (rt 0) (rr 0) (rq 0) (mrd S (nI nq)) ++ qaw E rq (fun q => some (rk q 0)) SQ ++ sw E rs SS ++ tpw E rt ST ++ rdw E rr (rt 0) xp SR ++ wkw E rw (rs 0) SW ++ grw E (rg q) (SG q) ++ plw E (rp q) (SP q) ++ k5 E rk rp rg rs rw SK SG SP q) [(0, .ref (r 0)), (1, .int (nI k)), (2, .int w), (3, .int (nI j)), (4, .int (nI q))] 27 [.ref ((rk q) 0)]
        refine z_perm (ws' := (kpw E (rk q) ((rp q) 0) ((rg q) 0) (rs 0) (rw 0) (mkp (SK q) (zi (SK q) 0) (zl (SK q) 0) (zl (SK q) 1) (zl (SK q) 2) (zb (SK q) 1) (za (SK q) 2) (zb (SK q) 3) (zb (SK q) 4) (zb (SK q) 5) (za (SK q) 6))) ++ (lqw E r (rs 0) (rt 0) (rr 0) (rq 0) (mrd S (nI nq)) ++ qaw E rq (fun q => some (rk q 0)) SQ ++ sw E rs SS ++ tpw E rt ST ++ rdw E rr (rt 0) xp SR ++ wkw E rw (rs 0) SW ++ grw E (rg q) (SG q) ++ plw E (rp q) (SP q) ++ k5 E rk rp rg rs rw SK SG SP q)) (List.Perm.of_eq (by first | (simp only [List.append_assoc]; done) | (simp only [List.append_assoc]; rfl))) ?_
        refine z_callVF (pc := 27) (q0 := 0) (ci := 1) (wr := lqw E r (rs 0) (rt 0) (rr 0) (rq 0) (mrd S (nI nq)) ++ qaw E rq (fun q => some (rk q 0)) SQ ++ sw E rs SS ++ tpw E rt ST ++ rdw E rr (rt 0) xp SR ++ wkw E rw (rs 0) SW ++ grw E (rg q) (SG q) ++ plw E (rp q) (SP q) ++ k5 E rk rp rg rs rw SK SG SP q) (rest := []) F (c_X1_differenceCount l E (rk q) _ _ _ _ (SK q) (zi (SK q) 0) (zl (SK q) 0) (zl (SK q) 1) (zl (SK q) 2) (zb (SK q) 1) (za (SK q) 2) (zb (SK q) 3) (zb (SK q) 4) (zb (SK q) 5) (za (SK q) 6)) 0 ww_LQ_154 (by decide +kernel) rfl ⟨Nat.le_of_ble_eq_true rfl, Nat.le_of_ble_eq_true rfl⟩ ⟨Nat.le_of_ble_eq_true rfl, Nat.le_of_ble_eq_true rfl⟩ rfl rfl rfl rfl (Nat.le_of_ble_eq_true rfl) dX7_differ_27 (fun v_ w1_ hp => ?_)
        obtain ⟨rfl, rfl⟩ := hp
        refine z_perm (ws' := kpw E (rk q) ((rp q) 0) ((rg q) 0) (rs 0) (rw 0) (SK q) ++ lqw E r (rs 0) (rt 0) (rr 0) (rq 0) (mrd S (nI nq)) ++ qaw E rq (fun q => some (rk q 0)) SQ ++ sw E rs SS ++ tpw E rt ST ++ rdw E rr (rt 0) xp SR ++ wkw E rw (rs 0) SW ++ grw E (rg q) (SG q) ++ plw E (rp q) (SP q) ++ k5 E rk rp rg rs rw SK SG SP q) (List.Perm.of_eq (by first | (simp only [List.append_assoc]; done) | (simp only [List.append_assoc]; rfl))) ?_
        show Z X (0) (0) (kpw E (rk q) ((rp q) 0) ((rg q) 0) (rs 0) (rw 0) (SK q) ++ lqw E r (rs 0) (rt 0) (rr 0) (rq 0) (mrd S (nI nq)) ++ qaw E rq (fun q => some (rk q 0)) SQ ++ sw E rs SS ++ tpw E rt ST ++ rdw E rr (rt 0) xp SR ++ wkw E rw (rs 0) SW ++ grw E (rg q) (SG q) ++ plw E (rp q) (SP q) ++ k5 E rk rp rg rs rw SK SG SP q) [(0, .ref (r 0)), (1, .int (nI k)), (2, .int w), (3, .int (nI j)), (4, .int (nI q))] 30 [.int (nI (ctB (uN (zl (SK q) 1)).testBit 64 + ctB (uN (zl (SK q) 2)).testBit 64))]
        rw [show (nI (ctB (uN (zl (SK q) 1)).testBit 64 + ctB (uN (zl (SK q) 2)).testBit 64)) = nI (ctS (SK q)) from rfl]
        refine z_blk [kpw E (rk q) ((rp q) 0) ((rg q) 0) (rs 0) (rw 0) (SK q), lqw E r (rs 0) (rt 0) (rr 0) (rq 0) (mrd S (nI nq)), qaw E rq (fun q => some (rk q 0)) SQ, sw E rs SS, tpw E rt ST, rdw E rr (rt 0) xp SR, wkw E rw (rs 0) SW, grw E (rg q) (SG q), plw E (rp q) (SP q), k5 E rk rp rg rs rw SK SG SP q] [lqw E r (rs 0) (rt 0) (rr 0) (rq 0) (mrd S (nI nq)), qaw E rq (fun q => some (rk q 0)) SQ, sw E rs SS, tpw E rt ST, rdw E rr (rt 0) xp SR, wkw E rw (rs 0) SW, kpw E (rk q) ((rp q) 0) ((rg q) 0) (rs 0) (rw 0) (SK q), grw E (rg q) (SG q), plw E (rp q) (SP q), k5 E rk rp rg rs rw SK SG SP q] [1, 2, 3, 4, 5, 6, 0, 7, 8, 9] 10 rfl (by decide) rfl ?_
        show Z X (0) (0) (lqw E r (rs 0) (rt 0) (rr 0) (rq 0) (mrd S (nI nq)) ++ qaw E rq (fun q => some (rk q 0)) SQ ++ sw E rs SS ++ tpw E rt ST ++ rdw E rr (rt 0) xp SR ++ wkw E rw (rs 0) SW ++ kpw E (rk q) ((rp q) 0) ((rg q) 0) (rs 0) (rw 0) (SK q) ++ grw E (rg q) (SG q) ++ plw E (rp q) (SP q) ++ k5 E rk rp rg rs rw SK SG SP q) [(0, .ref (r 0)), (1, .int (nI k)), (2, .int w), (3, .int (nI j)), (4, .int (nI q))] 30 [.int (nI (ctS (SK q)))]
        refine z_join6 q (by omega) ?_
        rw [updS_id SK q, updS_id SG q, updS_id SP q]
        refine z_istore (pc := 30) (lv' := [(0, .ref (r 0)), (1, .int (nI k)), (2, .int w), (3, .int (nI j)), (4, .int (nI q)), (5, .int (nI (ctS (SK q))))]) F dX7_differ_30 (by decide) [1, 2, 3, 4, 5, 0] rfl ?_
        refine z_iload_n (pc := 32) F dX7_differ_32 rfl 3 rfl ?_
        refine z_iload (pc := 33) F dX7_differ_33 5 rfl ?_
        refine z_icmp_ge (pc := 35) (tgt := 47) F dX7_differ_35 (by decide) (fun c35 => ?_) (fun c35 => ?_)
        · have k35 := gI (by omega) (by omega) c35
          rw [show dfA SK ((nq - (q + 1)) + 1) q j = dfA SK (nq - (q + 1)) (q + 1) (j - ctS (SK q)) from by simp [dfA, Nat.not_lt.mpr k35]] at hd
          refine z_iload_n (pc := 47) F dX7_differ_47 rfl 3 rfl ?_
          refine z_iload (pc := 48) F dX7_differ_48 5 rfl ?_
          refine z_isub (pc := 50) F dX7_differ_50 ?_
          rw [show ((nI j) - (nI (ctS (SK q)))) = nI (j - ctS (SK q)) from (pk_sub k35)]
          refine z_istore_n (pc := 51) (lv' := [(0, .ref (r 0)), (1, .int (nI k)), (2, .int w), (3, .int (nI (j - ctS (SK q)))), (4, .int (nI q)), (5, .int (nI (ctS (SK q))))]) F dX7_differ_51 rfl (by decide) [1, 2, 3, 0, 4, 5] rfl ?_
          refine z_iinc (pc := 52) (v := nI (q + 1)) (lv' := [(0, .ref (r 0)), (1, .int (nI k)), (2, .int w), (3, .int (nI (j - ctS (SK q)))), (4, .int (nI (q + 1))), (5, .int (nI (ctS (SK q))))]) F (j := 4) dX7_differ_52 rfl (nI_1 _) (by decide) [1, 2, 3, 4, 0, 5] rfl ?_
          refine z_goto (pc := 55) (tgt := 11) F dX7_differ_55 (by decide) ?_
          refine z_locals (lv' := [(0, .ref (r 0)), (1, .int (nI k)), (2, .int w), (3, .int (nI (j - ctS (SK q)))), (4, .int (nI (q + 1)))]) [0, 1, 2, 3, 4] rfl ?_
          exact ih11 (q + 1) (j - ctS (SK q)) (by omega) (by omega) (by omega) hd
        · have k35 := ngI (by omega) (by omega) c35
          rw [show dfA SK ((nq - (q + 1)) + 1) q j = some (q, j) from by simp [dfA, k35]] at hd
          refine z_aload_n (pc := 38) F dX7_differ_38 rfl 0 rfl ?_
          refine z_iload (pc := 39) F dX7_differ_39 4 rfl ?_
          refine z_iload_n (pc := 41) F dX7_differ_41 rfl 3 rfl ?_
          refine z_iload_n (pc := 42) F dX7_differ_42 rfl 2 rfl ?_
          refine z_callVW (pc := 43) (q0 := 0) (ci := 7) (rest := []) F (c_X7_tellDifference l E r rs rt rr rq rw _ _ _ S SQ SS ST SR SW SK SG SP xp nq m D G lm q j w (by omega) hj) 3 ww_LQ_157 (by decide +kernel) rfl ⟨Nat.le_of_ble_eq_true rfl, Nat.le_of_ble_eq_true rfl⟩ ⟨Nat.le_of_ble_eq_true rfl, Nat.le_of_ble_eq_true rfl⟩ rfl rfl rfl rfl (Nat.le_of_ble_eq_true rfl) dX7_differ_43 (fun v_ w1_ hp => ?_)
          obtain ⟨rfl, rfl⟩ := hp
          show Z X (0) (0) (lqw E r (rs 0) (rt 0) (rr 0) (rq 0) (mrd S (nI nq)) ++ qaw E rq (fun q => some (rk q 0)) SQ ++ sw E rs SS ++ tpw E rt ST ++ rdw E rr (rt 0) xp SR ++ wkw E rw (rs 0) SW ++ k6 E rk rp rg rs rw SK SG SP) [(0, .ref (r 0)), (1, .int (nI k)), (2, .int w), (3, .int (nI j)), (4, .int (nI q)), (5, .int (nI (ctS (SK q))))] 46 [.int (tlV (SK q) q j w)]
          exact z_iret (pc := 46) F hR dX7_differ_46 (Nat.le_of_ble_eq_true rfl) (Nat.le_of_ble_eq_true rfl) ⟨by rw [dfR_, ← hd], rfl⟩
  exact L11 _ 0 k (Nat.lt_succ_self _) (Nat.zero_le _) hk2 rfl
set_option maxHeartbeats 4000000 in
set_option maxRecDepth 100000 in
theorem c_X7_differ_n (l : Launch) (E : zE) (r : Nat → Nat) (rs : Nat → Nat) (rt : Nat → Nat) (rr : Nat → Nat) (rq : Nat → Nat) (rw : Nat → Nat) (rk : Nat → Nat → Nat) (rp : Nat → Nat → Nat) (rg : Nat → Nat → Nat) (S : zS) (SQ : zS) (SS : zS) (ST : zS) (SR : zS) (SW : zS) (SK : Nat → zS) (SG : Nat → zS) (SP : Nat → zS) (xp : Value) (nq : Nat) (k : Int32) (w : Int32) (hk : k < 0) : Ct l yX7_differ cX7_differ 6 (some .int) ({ frames := 4, cells := 0, slots := 0, locals := 140 } : Room) E (lqw E r (rs 0) (rt 0) (rr 0) (rq 0) (mrd S (nI nq)) ++ qaw E rq (fun q => some (rk q 0)) SQ ++ sw E rs SS ++ tpw E rt ST ++ rdw E rr (rt 0) xp SR ++ wkw E rw (rs 0) SW ++ k6 E rk rp rg rs rw SK SG SP) [.ref (r 0), .int k, .int w] (fun v_ w_ => v_ = some (.int (-1)) ∧ w_ = lqw E r (rs 0) (rt 0) (rr 0) (rq 0) (mrd S (nI nq)) ++ qaw E rq (fun q => some (rk q 0)) SQ ++ sw E rs SS ++ tpw E rt ST ++ rdw E rr (rt 0) xp SR ++ wkw E rw (rs 0) SW ++ k6 E rk rp rg rs rw SK SG SP) := by
  refine Ct.of (by decide) (Nat.le_of_ble_eq_true rfl) (lv := [(0, .ref (r 0)), (1, .int k), (2, .int w)]) rfl ?_
  intro X F hR
  have F : zF X l ({ frames := 4, cells := 0, slots := 0, locals := 140 } : Room) E cX7_differ 6 "LiveQueries" := F
  refine z_iload_n (pc := 0) F dX7_differ_0 rfl 1 rfl ?_
  refine z_if_ge (pc := 1) (tgt := 6) F dX7_differ_1 (by decide) (fun c1 => absurd c1 (by rw [Int32.le_iff_toInt_le]; rw [Int32.lt_iff_toInt_lt] at hk; omega)) (fun c1 => ?_)
  refine z_iconst (pc := 4) (v := (-1)) F dX7_differ_4 (by decide) ?_
  exact z_iret (pc := 5) F hR dX7_differ_5 (Nat.le_of_ble_eq_true rfl) (Nat.le_of_ble_eq_true rfl) ⟨rfl, rfl⟩
set_option maxHeartbeats 4000000 in
set_option maxRecDepth 100000 in
theorem c_X7_look_0 (l : Launch) (E : zE) (r : Nat → Nat) (rs : Nat → Nat) (rt : Nat → Nat) (rr : Nat → Nat) (rq : Nat → Nat) (rw : Nat → Nat) (rk : Nat → Nat → Nat) (rp : Nat → Nat → Nat) (rg : Nat → Nat → Nat) (S : zS) (SQ : zS) (SS : zS) (ST : zS) (SR : zS) (SW : zS) (SK : Nat → zS) (SG : Nat → zS) (SP : Nat → zS) (xp : Value) (nq : Nat) (m : Nat) (o : Nat) (hs : stOk SS m) (hom : o < m) (hth : ¬ za SS 1 o = 0) : Ct l yX7_look cX7_look 3 (some .long) ({ frames := 4, cells := 0, slots := 0, locals := 140 } : Room) E (lqw E r (rs 0) (rt 0) (rr 0) (rq 0) (mrd S (nI nq)) ++ qaw E rq (fun q => some (rk q 0)) SQ ++ sw E rs SS ++ tpw E rt ST ++ rdw E rr (rt 0) xp SR ++ wkw E rw (rs 0) SW ++ k6 E rk rp rg rs rw SK SG SP) [.ref (r 0), .int (nI o), .int 0] (fun v_ w_ => v_ = some (.long (zb SS 5 (3 * o + 0))) ∧ w_ = lqw E r (rs 0) (rt 0) (rr 0) (rq 0) (mrd S (nI nq)) ++ qaw E rq (fun q => some (rk q 0)) SQ ++ sw E rs SS ++ tpw E rt ST ++ rdw E rr (rt 0) xp SR ++ wkw E rw (rs 0) SW ++ k6 E rk rp rg rs rw SK SG SP) := by
  refine Ct.of (by decide) (Nat.le_of_ble_eq_true rfl) (lv := [(0, .ref (r 0)), (1, .int (nI o)), (2, .int 0)]) rfl ?_
  intro X F hR
  have F : zF X l ({ frames := 4, cells := 0, slots := 0, locals := 140 } : Room) E cX7_look 3 "LiveQueries" := F
  have hm6 := hs.1
  have hmo := hs.2.1
  refine z_aload_n (pc := 0) F dX7_look_0 rfl 0 rfl ?_
  refine z_get (pc := 1) (v := .ref (rs 0)) F iX7 0 rfl rfl 0 (by decide) tw_306 rfl dX7_look_1 ?_
  refine z_iload_n (pc := 4) F dX7_look_4 rfl 1 rfl ?_
  refine z_blk [lqw E r (rs 0) (rt 0) (rr 0) (rq 0) (mrd S (nI nq)), qaw E rq (fun q => some (rk q 0)) SQ, sw E rs SS, tpw E rt ST, rdw E rr (rt 0) xp SR, wkw E rw (rs 0) SW, k6 E rk rp rg rs rw SK SG SP] [sw E rs SS, lqw E r (rs 0) (rt 0) (rr 0) (rq 0) (mrd S (nI nq)), qaw E rq (fun q => some (rk q 0)) SQ, tpw E rt ST, rdw E rr (rt 0) xp SR, wkw E rw (rs 0) SW, k6 E rk rp rg rs rw SK SG SP] [2, 0, 1, 3, 4, 5, 6] 7 rfl (by decide) rfl ?_
  show Z X (0) (0) (sw E rs SS ++ lqw E r (rs 0) (rt 0) (rr 0) (rq 0) (mrd S (nI nq)) ++ qaw E rq (fun q => some (rk q 0)) SQ ++ tpw E rt ST ++ rdw E rr (rt 0) xp SR ++ wkw E rw (rs 0) SW ++ k6 E rk rp rg rs rw SK SG SP) [(0, .ref (r 0)), (1, .int (nI o)), (2, .int 0)] 5 [.int (nI o), .ref (rs 0)]
  refine z_perm (ws' := (sw E rs SS) ++ (lqw E r (rs 0) (rt 0) (rr 0) (rq 0) (mrd S (nI nq)) ++ qaw E rq (fun q => some (rk q 0)) SQ ++ tpw E rt ST ++ rdw E rr (rt 0) xp SR ++ wkw E rw (rs 0) SW ++ k6 E rk rp rg rs rw SK SG SP)) (List.Perm.of_eq (by first | (simp only [List.append_assoc]; done) | (simp only [List.append_assoc]; rfl))) ?_
  refine z_callVF (pc := 5) (q0 := 0) (ci := 4) (wr := lqw E r (rs 0) (rt 0) (rr 0) (rq 0) (mrd S (nI nq)) ++ qaw E rq (fun q => some (rk q 0)) SQ ++ tpw E rt ST ++ rdw E rr (rt 0) xp SR ++ wkw E rw (rs 0) SW ++ k6 E rk rp rg rs rw SK SG SP) (rest := []) F (c_X4_isThere l E rs SS m (nI o) hm6 hmo) 1 ww_LQ_161 (by decide +kernel) rfl ⟨Nat.le_of_ble_eq_true rfl, Nat.le_of_ble_eq_true rfl⟩ ⟨Nat.le_of_ble_eq_true rfl, Nat.le_of_ble_eq_true rfl⟩ rfl rfl rfl rfl (Nat.le_of_ble_eq_true rfl) dX7_look_5 (fun v_ w1_ hp => ?_)
  obtain ⟨rfl, rfl⟩ := hp
  refine z_perm (ws' := sw E rs SS ++ lqw E r (rs 0) (rt 0) (rr 0) (rq 0) (mrd S (nI nq)) ++ qaw E rq (fun q => some (rk q 0)) SQ ++ tpw E rt ST ++ rdw E rr (rt 0) xp SR ++ wkw E rw (rs 0) SW ++ k6 E rk rp rg rs rw SK SG SP) (List.Perm.of_eq (by first | (simp only [List.append_assoc]; done) | (simp only [List.append_assoc]; rfl))) ?_
  show Z X (0) (0) (sw E rs SS ++ lqw E r (rs 0) (rt 0) (rr 0) (rq 0) (mrd S (nI nq)) ++ qaw E rq (fun q => some (rk q 0)) SQ ++ tpw E rt ST ++ rdw E rr (rt 0) xp SR ++ wkw E rw (rs 0) SW ++ k6 E rk rp rg rs rw SK SG SP) [(0, .ref (r 0)), (1, .int (nI o)), (2, .int 0)] 8 [.int (bI (thB m (za SS 1) (nI o)))]
  rw [show (bI (thB m (za SS 1) (nI o))) = 1 from (thB_1 (by omega) hom hth)]
  refine z_if_ne (pc := 8) (tgt := 21) F dX7_look_8 (by decide) (fun _ => ?_) (fun h => absurd h (by decide))
  refine z_iload_n (pc := 21) F dX7_look_21 rfl 2 rfl ?_
  refine z_bipush (pc := 22) (v := 10) F dX7_look_22 (by decide) ?_
  refine z_icmp_lt (pc := 24) (tgt := 56) F dX7_look_24 (by decide) (fun _ => ?_) (fun h => absurd h (by decide))
  refine z_iload_n (pc := 56) F dX7_look_56 rfl 2 rfl ?_
  · refine z_tableIn (off := 39) (tgt := 96) (pc := 57) F dX7_look_57 (by decide) (by decide) (by decide) (by decide) ?_
    refine z_aload_n (pc := 96) F dX7_look_96 rfl 0 rfl ?_
    refine z_get (pc := 97) (v := .ref (rs 0)) F iX7 7 rfl rfl 0 (by decide) tw_306 rfl dX7_look_97 ?_
    refine z_iload_n (pc := 100) F dX7_look_100 rfl 1 rfl ?_
    refine z_iload_n (pc := 101) F dX7_look_101 rfl 2 rfl ?_
    refine z_perm (ws' := (sw E rs SS) ++ (lqw E r (rs 0) (rt 0) (rr 0) (rq 0) (mrd S (nI nq)) ++ qaw E rq (fun q => some (rk q 0)) SQ ++ tpw E rt ST ++ rdw E rr (rt 0) xp SR ++ wkw E rw (rs 0) SW ++ k6 E rk rp rg rs rw SK SG SP)) (List.Perm.of_eq (by first | (simp only [List.append_assoc]; done) | (simp only [List.append_assoc]; rfl))) ?_
    refine z_callVF (pc := 102) (q0 := 0) (ci := 4) (wr := lqw E r (rs 0) (rt 0) (rr 0) (rq 0) (mrd S (nI nq)) ++ qaw E rq (fun q => some (rk q 0)) SQ ++ tpw E rt ST ++ rdw E rr (rt 0) xp SR ++ wkw E rw (rs 0) SW ++ k6 E rk rp rg rs rw SK SG SP) (rest := []) F (c_X4_partOf_s l E rs SS m o 0 hm6 hmo hom hth (by decide)) 2 ww_LQ_177 (by decide +kernel) rfl ⟨Nat.le_of_ble_eq_true rfl, Nat.le_of_ble_eq_true rfl⟩ ⟨Nat.le_of_ble_eq_true rfl, Nat.le_of_ble_eq_true rfl⟩ rfl rfl rfl rfl (Nat.le_of_ble_eq_true rfl) dX7_look_102 (fun v_ w1_ hp => ?_)
    obtain ⟨rfl, rfl⟩ := hp
    refine z_perm (ws' := sw E rs SS ++ lqw E r (rs 0) (rt 0) (rr 0) (rq 0) (mrd S (nI nq)) ++ qaw E rq (fun q => some (rk q 0)) SQ ++ tpw E rt ST ++ rdw E rr (rt 0) xp SR ++ wkw E rw (rs 0) SW ++ k6 E rk rp rg rs rw SK SG SP) (List.Perm.of_eq (by first | (simp only [List.append_assoc]; done) | (simp only [List.append_assoc]; rfl))) ?_
    show Z X (0) (0) (sw E rs SS ++ lqw E r (rs 0) (rt 0) (rr 0) (rq 0) (mrd S (nI nq)) ++ qaw E rq (fun q => some (rk q 0)) SQ ++ tpw E rt ST ++ rdw E rr (rt 0) xp SR ++ wkw E rw (rs 0) SW ++ k6 E rk rp rg rs rw SK SG SP) [(0, .ref (r 0)), (1, .int (nI o)), (2, .int 0)] 105 [.long (zb SS 5 (3 * o + 0))]
    refine z_blk [sw E rs SS, lqw E r (rs 0) (rt 0) (rr 0) (rq 0) (mrd S (nI nq)), qaw E rq (fun q => some (rk q 0)) SQ, tpw E rt ST, rdw E rr (rt 0) xp SR, wkw E rw (rs 0) SW, k6 E rk rp rg rs rw SK SG SP] [lqw E r (rs 0) (rt 0) (rr 0) (rq 0) (mrd S (nI nq)), qaw E rq (fun q => some (rk q 0)) SQ, sw E rs SS, tpw E rt ST, rdw E rr (rt 0) xp SR, wkw E rw (rs 0) SW, k6 E rk rp rg rs rw SK SG SP] [1, 2, 0, 3, 4, 5, 6] 7 rfl (by decide) rfl ?_
    show Z X (0) (0) (lqw E r (rs 0) (rt 0) (rr 0) (rq 0) (mrd S (nI nq)) ++ qaw E rq (fun q => some (rk q 0)) SQ ++ sw E rs SS ++ tpw E rt ST ++ rdw E rr (rt 0) xp SR ++ wkw E rw (rs 0) SW ++ k6 E rk rp rg rs rw SK SG SP) [(0, .ref (r 0)), (1, .int (nI o)), (2, .int 0)] 105 [.long (zb SS 5 (3 * o + 0))]
    exact z_lret (pc := 105) F hR dX7_look_105 (Nat.le_of_ble_eq_true rfl) (Nat.le_of_ble_eq_true rfl) ⟨rfl, rfl⟩
set_option maxHeartbeats 4000000 in
set_option maxRecDepth 100000 in
theorem c_X7_look_1 (l : Launch) (E : zE) (r : Nat → Nat) (rs : Nat → Nat) (rt : Nat → Nat) (rr : Nat → Nat) (rq : Nat → Nat) (rw : Nat → Nat) (rk : Nat → Nat → Nat) (rp : Nat → Nat → Nat) (rg : Nat → Nat → Nat) (S : zS) (SQ : zS) (SS : zS) (ST : zS) (SR : zS) (SW : zS) (SK : Nat → zS) (SG : Nat → zS) (SP : Nat → zS) (xp : Value) (nq : Nat) (m : Nat) (o : Nat) (hs : stOk SS m) (hom : o < m) (hth : ¬ za SS 1 o = 0) : Ct l yX7_look cX7_look 3 (some .long) ({ frames := 4, cells := 0, slots := 0, locals := 140 } : Room) E (lqw E r (rs 0) (rt 0) (rr 0) (rq 0) (mrd S (nI nq)) ++ qaw E rq (fun q => some (rk q 0)) SQ ++ sw E rs SS ++ tpw E rt ST ++ rdw E rr (rt 0) xp SR ++ wkw E rw (rs 0) SW ++ k6 E rk rp rg rs rw SK SG SP) [.ref (r 0), .int (nI o), .int 1] (fun v_ w_ => v_ = some (.long (zb SS 5 (3 * o + 1))) ∧ w_ = lqw E r (rs 0) (rt 0) (rr 0) (rq 0) (mrd S (nI nq)) ++ qaw E rq (fun q => some (rk q 0)) SQ ++ sw E rs SS ++ tpw E rt ST ++ rdw E rr (rt 0) xp SR ++ wkw E rw (rs 0) SW ++ k6 E rk rp rg rs rw SK SG SP) := by
  refine Ct.of (by decide) (Nat.le_of_ble_eq_true rfl) (lv := [(0, .ref (r 0)), (1, .int (nI o)), (2, .int 1)]) rfl ?_
  intro X F hR
  have F : zF X l ({ frames := 4, cells := 0, slots := 0, locals := 140 } : Room) E cX7_look 3 "LiveQueries" := F
  have hm6 := hs.1
  have hmo := hs.2.1
  refine z_aload_n (pc := 0) F dX7_look_0 rfl 0 rfl ?_
  refine z_get (pc := 1) (v := .ref (rs 0)) F iX7 0 rfl rfl 0 (by decide) tw_306 rfl dX7_look_1 ?_
  refine z_iload_n (pc := 4) F dX7_look_4 rfl 1 rfl ?_
  refine z_blk [lqw E r (rs 0) (rt 0) (rr 0) (rq 0) (mrd S (nI nq)), qaw E rq (fun q => some (rk q 0)) SQ, sw E rs SS, tpw E rt ST, rdw E rr (rt 0) xp SR, wkw E rw (rs 0) SW, k6 E rk rp rg rs rw SK SG SP] [sw E rs SS, lqw E r (rs 0) (rt 0) (rr 0) (rq 0) (mrd S (nI nq)), qaw E rq (fun q => some (rk q 0)) SQ, tpw E rt ST, rdw E rr (rt 0) xp SR, wkw E rw (rs 0) SW, k6 E rk rp rg rs rw SK SG SP] [2, 0, 1, 3, 4, 5, 6] 7 rfl (by decide) rfl ?_
  show Z X (0) (0) (sw E rs SS ++ lqw E r (rs 0) (rt 0) (rr 0) (rq 0) (mrd S (nI nq)) ++ qaw E rq (fun q => some (rk q 0)) SQ ++ tpw E rt ST ++ rdw E rr (rt 0) xp SR ++ wkw E rw (rs 0) SW ++ k6 E rk rp rg rs rw SK SG SP) [(0, .ref (r 0)), (1, .int (nI o)), (2, .int 1)] 5 [.int (nI o), .ref (rs 0)]
  refine z_perm (ws' := (sw E rs SS) ++ (lqw E r (rs 0) (rt 0) (rr 0) (rq 0) (mrd S (nI nq)) ++ qaw E rq (fun q => some (rk q 0)) SQ ++ tpw E rt ST ++ rdw E rr (rt 0) xp SR ++ wkw E rw (rs 0) SW ++ k6 E rk rp rg rs rw SK SG SP)) (List.Perm.of_eq (by first | (simp only [List.append_assoc]; done) | (simp only [List.append_assoc]; rfl))) ?_
  refine z_callVF (pc := 5) (q0 := 0) (ci := 4) (wr := lqw E r (rs 0) (rt 0) (rr 0) (rq 0) (mrd S (nI nq)) ++ qaw E rq (fun q => some (rk q 0)) SQ ++ tpw E rt ST ++ rdw E rr (rt 0) xp SR ++ wkw E rw (rs 0) SW ++ k6 E rk rp rg rs rw SK SG SP) (rest := []) F (c_X4_isThere l E rs SS m (nI o) hm6 hmo) 1 ww_LQ_161 (by decide +kernel) rfl ⟨Nat.le_of_ble_eq_true rfl, Nat.le_of_ble_eq_true rfl⟩ ⟨Nat.le_of_ble_eq_true rfl, Nat.le_of_ble_eq_true rfl⟩ rfl rfl rfl rfl (Nat.le_of_ble_eq_true rfl) dX7_look_5 (fun v_ w1_ hp => ?_)
  obtain ⟨rfl, rfl⟩ := hp
  refine z_perm (ws' := sw E rs SS ++ lqw E r (rs 0) (rt 0) (rr 0) (rq 0) (mrd S (nI nq)) ++ qaw E rq (fun q => some (rk q 0)) SQ ++ tpw E rt ST ++ rdw E rr (rt 0) xp SR ++ wkw E rw (rs 0) SW ++ k6 E rk rp rg rs rw SK SG SP) (List.Perm.of_eq (by first | (simp only [List.append_assoc]; done) | (simp only [List.append_assoc]; rfl))) ?_
  show Z X (0) (0) (sw E rs SS ++ lqw E r (rs 0) (rt 0) (rr 0) (rq 0) (mrd S (nI nq)) ++ qaw E rq (fun q => some (rk q 0)) SQ ++ tpw E rt ST ++ rdw E rr (rt 0) xp SR ++ wkw E rw (rs 0) SW ++ k6 E rk rp rg rs rw SK SG SP) [(0, .ref (r 0)), (1, .int (nI o)), (2, .int 1)] 8 [.int (bI (thB m (za SS 1) (nI o)))]
  rw [show (bI (thB m (za SS 1) (nI o))) = 1 from (thB_1 (by omega) hom hth)]
  refine z_if_ne (pc := 8) (tgt := 21) F dX7_look_8 (by decide) (fun _ => ?_) (fun h => absurd h (by decide))
  refine z_iload_n (pc := 21) F dX7_look_21 rfl 2 rfl ?_
  refine z_bipush (pc := 22) (v := 10) F dX7_look_22 (by decide) ?_
  refine z_icmp_lt (pc := 24) (tgt := 56) F dX7_look_24 (by decide) (fun _ => ?_) (fun h => absurd h (by decide))
  refine z_iload_n (pc := 56) F dX7_look_56 rfl 2 rfl ?_
  · refine z_tableIn (off := 39) (tgt := 96) (pc := 57) F dX7_look_57 (by decide) (by decide) (by decide) (by decide) ?_
    refine z_aload_n (pc := 96) F dX7_look_96 rfl 0 rfl ?_
    refine z_get (pc := 97) (v := .ref (rs 0)) F iX7 7 rfl rfl 0 (by decide) tw_306 rfl dX7_look_97 ?_
    refine z_iload_n (pc := 100) F dX7_look_100 rfl 1 rfl ?_
    refine z_iload_n (pc := 101) F dX7_look_101 rfl 2 rfl ?_
    refine z_perm (ws' := (sw E rs SS) ++ (lqw E r (rs 0) (rt 0) (rr 0) (rq 0) (mrd S (nI nq)) ++ qaw E rq (fun q => some (rk q 0)) SQ ++ tpw E rt ST ++ rdw E rr (rt 0) xp SR ++ wkw E rw (rs 0) SW ++ k6 E rk rp rg rs rw SK SG SP)) (List.Perm.of_eq (by first | (simp only [List.append_assoc]; done) | (simp only [List.append_assoc]; rfl))) ?_
    refine z_callVF (pc := 102) (q0 := 0) (ci := 4) (wr := lqw E r (rs 0) (rt 0) (rr 0) (rq 0) (mrd S (nI nq)) ++ qaw E rq (fun q => some (rk q 0)) SQ ++ tpw E rt ST ++ rdw E rr (rt 0) xp SR ++ wkw E rw (rs 0) SW ++ k6 E rk rp rg rs rw SK SG SP) (rest := []) F (c_X4_partOf_s l E rs SS m o 1 hm6 hmo hom hth (by decide)) 2 ww_LQ_177 (by decide +kernel) rfl ⟨Nat.le_of_ble_eq_true rfl, Nat.le_of_ble_eq_true rfl⟩ ⟨Nat.le_of_ble_eq_true rfl, Nat.le_of_ble_eq_true rfl⟩ rfl rfl rfl rfl (Nat.le_of_ble_eq_true rfl) dX7_look_102 (fun v_ w1_ hp => ?_)
    obtain ⟨rfl, rfl⟩ := hp
    refine z_perm (ws' := sw E rs SS ++ lqw E r (rs 0) (rt 0) (rr 0) (rq 0) (mrd S (nI nq)) ++ qaw E rq (fun q => some (rk q 0)) SQ ++ tpw E rt ST ++ rdw E rr (rt 0) xp SR ++ wkw E rw (rs 0) SW ++ k6 E rk rp rg rs rw SK SG SP) (List.Perm.of_eq (by first | (simp only [List.append_assoc]; done) | (simp only [List.append_assoc]; rfl))) ?_
    show Z X (0) (0) (sw E rs SS ++ lqw E r (rs 0) (rt 0) (rr 0) (rq 0) (mrd S (nI nq)) ++ qaw E rq (fun q => some (rk q 0)) SQ ++ tpw E rt ST ++ rdw E rr (rt 0) xp SR ++ wkw E rw (rs 0) SW ++ k6 E rk rp rg rs rw SK SG SP) [(0, .ref (r 0)), (1, .int (nI o)), (2, .int 1)] 105 [.long (zb SS 5 (3 * o + 1))]
    refine z_blk [sw E rs SS, lqw E r (rs 0) (rt 0) (rr 0) (rq 0) (mrd S (nI nq)), qaw E rq (fun q => some (rk q 0)) SQ, tpw E rt ST, rdw E rr (rt 0) xp SR, wkw E rw (rs 0) SW, k6 E rk rp rg rs rw SK SG SP] [lqw E r (rs 0) (rt 0) (rr 0) (rq 0) (mrd S (nI nq)), qaw E rq (fun q => some (rk q 0)) SQ, sw E rs SS, tpw E rt ST, rdw E rr (rt 0) xp SR, wkw E rw (rs 0) SW, k6 E rk rp rg rs rw SK SG SP] [1, 2, 0, 3, 4, 5, 6] 7 rfl (by decide) rfl ?_
    show Z X (0) (0) (lqw E r (rs 0) (rt 0) (rr 0) (rq 0) (mrd S (nI nq)) ++ qaw E rq (fun q => some (rk q 0)) SQ ++ sw E rs SS ++ tpw E rt ST ++ rdw E rr (rt 0) xp SR ++ wkw E rw (rs 0) SW ++ k6 E rk rp rg rs rw SK SG SP) [(0, .ref (r 0)), (1, .int (nI o)), (2, .int 1)] 105 [.long (zb SS 5 (3 * o + 1))]
    exact z_lret (pc := 105) F hR dX7_look_105 (Nat.le_of_ble_eq_true rfl) (Nat.le_of_ble_eq_true rfl) ⟨rfl, rfl⟩
set_option maxHeartbeats 4000000 in
set_option maxRecDepth 100000 in
theorem c_X7_look_2 (l : Launch) (E : zE) (r : Nat → Nat) (rs : Nat → Nat) (rt : Nat → Nat) (rr : Nat → Nat) (rq : Nat → Nat) (rw : Nat → Nat) (rk : Nat → Nat → Nat) (rp : Nat → Nat → Nat) (rg : Nat → Nat → Nat) (S : zS) (SQ : zS) (SS : zS) (ST : zS) (SR : zS) (SW : zS) (SK : Nat → zS) (SG : Nat → zS) (SP : Nat → zS) (xp : Value) (nq : Nat) (m : Nat) (o : Nat) (hs : stOk SS m) (hom : o < m) (hth : ¬ za SS 1 o = 0) : Ct l yX7_look cX7_look 3 (some .long) ({ frames := 4, cells := 0, slots := 0, locals := 140 } : Room) E (lqw E r (rs 0) (rt 0) (rr 0) (rq 0) (mrd S (nI nq)) ++ qaw E rq (fun q => some (rk q 0)) SQ ++ sw E rs SS ++ tpw E rt ST ++ rdw E rr (rt 0) xp SR ++ wkw E rw (rs 0) SW ++ k6 E rk rp rg rs rw SK SG SP) [.ref (r 0), .int (nI o), .int 2] (fun v_ w_ => v_ = some (.long (zb SS 5 (3 * o + 2))) ∧ w_ = lqw E r (rs 0) (rt 0) (rr 0) (rq 0) (mrd S (nI nq)) ++ qaw E rq (fun q => some (rk q 0)) SQ ++ sw E rs SS ++ tpw E rt ST ++ rdw E rr (rt 0) xp SR ++ wkw E rw (rs 0) SW ++ k6 E rk rp rg rs rw SK SG SP) := by
  refine Ct.of (by decide) (Nat.le_of_ble_eq_true rfl) (lv := [(0, .ref (r 0)), (1, .int (nI o)), (2, .int 2)]) rfl ?_
  intro X F hR
  have F : zF X l ({ frames := 4, cells := 0, slots := 0, locals := 140 } : Room) E cX7_look 3 "LiveQueries" := F
  have hm6 := hs.1
  have hmo := hs.2.1
  refine z_aload_n (pc := 0) F dX7_look_0 rfl 0 rfl ?_
  refine z_get (pc := 1) (v := .ref (rs 0)) F iX7 0 rfl rfl 0 (by decide) tw_306 rfl dX7_look_1 ?_
  refine z_iload_n (pc := 4) F dX7_look_4 rfl 1 rfl ?_
  refine z_blk [lqw E r (rs 0) (rt 0) (rr 0) (rq 0) (mrd S (nI nq)), qaw E rq (fun q => some (rk q 0)) SQ, sw E rs SS, tpw E rt ST, rdw E rr (rt 0) xp SR, wkw E rw (rs 0) SW, k6 E rk rp rg rs rw SK SG SP] [sw E rs SS, lqw E r (rs 0) (rt 0) (rr 0) (rq 0) (mrd S (nI nq)), qaw E rq (fun q => some (rk q 0)) SQ, tpw E rt ST, rdw E rr (rt 0) xp SR, wkw E rw (rs 0) SW, k6 E rk rp rg rs rw SK SG SP] [2, 0, 1, 3, 4, 5, 6] 7 rfl (by decide) rfl ?_
  show Z X (0) (0) (sw E rs SS ++ lqw E r (rs 0) (rt 0) (rr 0) (rq 0) (mrd S (nI nq)) ++ qaw E rq (fun q => some (rk q 0)) SQ ++ tpw E rt ST ++ rdw E rr (rt 0) xp SR ++ wkw E rw (rs 0) SW ++ k6 E rk rp rg rs rw SK SG SP) [(0, .ref (r 0)), (1, .int (nI o)), (2, .int 2)] 5 [.int (nI o), .ref (rs 0)]
  refine z_perm (ws' := (sw E rs SS) ++ (lqw E r (rs 0) (rt 0) (rr 0) (rq 0) (mrd S (nI nq)) ++ qaw E rq (fun q => some (rk q 0)) SQ ++ tpw E rt ST ++ rdw E rr (rt 0) xp SR ++ wkw E rw (rs 0) SW ++ k6 E rk rp rg rs rw SK SG SP)) (List.Perm.of_eq (by first | (simp only [List.append_assoc]; done) | (simp only [List.append_assoc]; rfl))) ?_
  refine z_callVF (pc := 5) (q0 := 0) (ci := 4) (wr := lqw E r (rs 0) (rt 0) (rr 0) (rq 0) (mrd S (nI nq)) ++ qaw E rq (fun q => some (rk q 0)) SQ ++ tpw E rt ST ++ rdw E rr (rt 0) xp SR ++ wkw E rw (rs 0) SW ++ k6 E rk rp rg rs rw SK SG SP) (rest := []) F (c_X4_isThere l E rs SS m (nI o) hm6 hmo) 1 ww_LQ_161 (by decide +kernel) rfl ⟨Nat.le_of_ble_eq_true rfl, Nat.le_of_ble_eq_true rfl⟩ ⟨Nat.le_of_ble_eq_true rfl, Nat.le_of_ble_eq_true rfl⟩ rfl rfl rfl rfl (Nat.le_of_ble_eq_true rfl) dX7_look_5 (fun v_ w1_ hp => ?_)
  obtain ⟨rfl, rfl⟩ := hp
  refine z_perm (ws' := sw E rs SS ++ lqw E r (rs 0) (rt 0) (rr 0) (rq 0) (mrd S (nI nq)) ++ qaw E rq (fun q => some (rk q 0)) SQ ++ tpw E rt ST ++ rdw E rr (rt 0) xp SR ++ wkw E rw (rs 0) SW ++ k6 E rk rp rg rs rw SK SG SP) (List.Perm.of_eq (by first | (simp only [List.append_assoc]; done) | (simp only [List.append_assoc]; rfl))) ?_
  show Z X (0) (0) (sw E rs SS ++ lqw E r (rs 0) (rt 0) (rr 0) (rq 0) (mrd S (nI nq)) ++ qaw E rq (fun q => some (rk q 0)) SQ ++ tpw E rt ST ++ rdw E rr (rt 0) xp SR ++ wkw E rw (rs 0) SW ++ k6 E rk rp rg rs rw SK SG SP) [(0, .ref (r 0)), (1, .int (nI o)), (2, .int 2)] 8 [.int (bI (thB m (za SS 1) (nI o)))]
  rw [show (bI (thB m (za SS 1) (nI o))) = 1 from (thB_1 (by omega) hom hth)]
  refine z_if_ne (pc := 8) (tgt := 21) F dX7_look_8 (by decide) (fun _ => ?_) (fun h => absurd h (by decide))
  refine z_iload_n (pc := 21) F dX7_look_21 rfl 2 rfl ?_
  refine z_bipush (pc := 22) (v := 10) F dX7_look_22 (by decide) ?_
  refine z_icmp_lt (pc := 24) (tgt := 56) F dX7_look_24 (by decide) (fun _ => ?_) (fun h => absurd h (by decide))
  refine z_iload_n (pc := 56) F dX7_look_56 rfl 2 rfl ?_
  · refine z_tableIn (off := 39) (tgt := 96) (pc := 57) F dX7_look_57 (by decide) (by decide) (by decide) (by decide) ?_
    refine z_aload_n (pc := 96) F dX7_look_96 rfl 0 rfl ?_
    refine z_get (pc := 97) (v := .ref (rs 0)) F iX7 7 rfl rfl 0 (by decide) tw_306 rfl dX7_look_97 ?_
    refine z_iload_n (pc := 100) F dX7_look_100 rfl 1 rfl ?_
    refine z_iload_n (pc := 101) F dX7_look_101 rfl 2 rfl ?_
    refine z_perm (ws' := (sw E rs SS) ++ (lqw E r (rs 0) (rt 0) (rr 0) (rq 0) (mrd S (nI nq)) ++ qaw E rq (fun q => some (rk q 0)) SQ ++ tpw E rt ST ++ rdw E rr (rt 0) xp SR ++ wkw E rw (rs 0) SW ++ k6 E rk rp rg rs rw SK SG SP)) (List.Perm.of_eq (by first | (simp only [List.append_assoc]; done) | (simp only [List.append_assoc]; rfl))) ?_
    refine z_callVF (pc := 102) (q0 := 0) (ci := 4) (wr := lqw E r (rs 0) (rt 0) (rr 0) (rq 0) (mrd S (nI nq)) ++ qaw E rq (fun q => some (rk q 0)) SQ ++ tpw E rt ST ++ rdw E rr (rt 0) xp SR ++ wkw E rw (rs 0) SW ++ k6 E rk rp rg rs rw SK SG SP) (rest := []) F (c_X4_partOf_s l E rs SS m o 2 hm6 hmo hom hth (by decide)) 2 ww_LQ_177 (by decide +kernel) rfl ⟨Nat.le_of_ble_eq_true rfl, Nat.le_of_ble_eq_true rfl⟩ ⟨Nat.le_of_ble_eq_true rfl, Nat.le_of_ble_eq_true rfl⟩ rfl rfl rfl rfl (Nat.le_of_ble_eq_true rfl) dX7_look_102 (fun v_ w1_ hp => ?_)
    obtain ⟨rfl, rfl⟩ := hp
    refine z_perm (ws' := sw E rs SS ++ lqw E r (rs 0) (rt 0) (rr 0) (rq 0) (mrd S (nI nq)) ++ qaw E rq (fun q => some (rk q 0)) SQ ++ tpw E rt ST ++ rdw E rr (rt 0) xp SR ++ wkw E rw (rs 0) SW ++ k6 E rk rp rg rs rw SK SG SP) (List.Perm.of_eq (by first | (simp only [List.append_assoc]; done) | (simp only [List.append_assoc]; rfl))) ?_
    show Z X (0) (0) (sw E rs SS ++ lqw E r (rs 0) (rt 0) (rr 0) (rq 0) (mrd S (nI nq)) ++ qaw E rq (fun q => some (rk q 0)) SQ ++ tpw E rt ST ++ rdw E rr (rt 0) xp SR ++ wkw E rw (rs 0) SW ++ k6 E rk rp rg rs rw SK SG SP) [(0, .ref (r 0)), (1, .int (nI o)), (2, .int 2)] 105 [.long (zb SS 5 (3 * o + 2))]
    refine z_blk [sw E rs SS, lqw E r (rs 0) (rt 0) (rr 0) (rq 0) (mrd S (nI nq)), qaw E rq (fun q => some (rk q 0)) SQ, tpw E rt ST, rdw E rr (rt 0) xp SR, wkw E rw (rs 0) SW, k6 E rk rp rg rs rw SK SG SP] [lqw E r (rs 0) (rt 0) (rr 0) (rq 0) (mrd S (nI nq)), qaw E rq (fun q => some (rk q 0)) SQ, sw E rs SS, tpw E rt ST, rdw E rr (rt 0) xp SR, wkw E rw (rs 0) SW, k6 E rk rp rg rs rw SK SG SP] [1, 2, 0, 3, 4, 5, 6] 7 rfl (by decide) rfl ?_
    show Z X (0) (0) (lqw E r (rs 0) (rt 0) (rr 0) (rq 0) (mrd S (nI nq)) ++ qaw E rq (fun q => some (rk q 0)) SQ ++ sw E rs SS ++ tpw E rt ST ++ rdw E rr (rt 0) xp SR ++ wkw E rw (rs 0) SW ++ k6 E rk rp rg rs rw SK SG SP) [(0, .ref (r 0)), (1, .int (nI o)), (2, .int 2)] 105 [.long (zb SS 5 (3 * o + 2))]
    exact z_lret (pc := 105) F hR dX7_look_105 (Nat.le_of_ble_eq_true rfl) (Nat.le_of_ble_eq_true rfl) ⟨rfl, rfl⟩
set_option maxHeartbeats 4000000 in
set_option maxRecDepth 100000 in
theorem c_X7_look_3 (l : Launch) (E : zE) (r : Nat → Nat) (rs : Nat → Nat) (rt : Nat → Nat) (rr : Nat → Nat) (rq : Nat → Nat) (rw : Nat → Nat) (rk : Nat → Nat → Nat) (rp : Nat → Nat → Nat) (rg : Nat → Nat → Nat) (S : zS) (SQ : zS) (SS : zS) (ST : zS) (SR : zS) (SW : zS) (SK : Nat → zS) (SG : Nat → zS) (SP : Nat → zS) (xp : Value) (nq : Nat) (m : Nat) (o : Nat) (hs : stOk SS m) (hom : o < m) (hth : ¬ za SS 1 o = 0) : Ct l yX7_look cX7_look 3 (some .long) ({ frames := 4, cells := 0, slots := 0, locals := 140 } : Room) E (lqw E r (rs 0) (rt 0) (rr 0) (rq 0) (mrd S (nI nq)) ++ qaw E rq (fun q => some (rk q 0)) SQ ++ sw E rs SS ++ tpw E rt ST ++ rdw E rr (rt 0) xp SR ++ wkw E rw (rs 0) SW ++ k6 E rk rp rg rs rw SK SG SP) [.ref (r 0), .int (nI o), .int 3] (fun v_ w_ => v_ = some (.long ((za SS 3 o).toInt64)) ∧ w_ = lqw E r (rs 0) (rt 0) (rr 0) (rq 0) (mrd S (nI nq)) ++ qaw E rq (fun q => some (rk q 0)) SQ ++ sw E rs SS ++ tpw E rt ST ++ rdw E rr (rt 0) xp SR ++ wkw E rw (rs 0) SW ++ k6 E rk rp rg rs rw SK SG SP) := by
  refine Ct.of (by decide) (Nat.le_of_ble_eq_true rfl) (lv := [(0, .ref (r 0)), (1, .int (nI o)), (2, .int 3)]) rfl ?_
  intro X F hR
  have F : zF X l ({ frames := 4, cells := 0, slots := 0, locals := 140 } : Room) E cX7_look 3 "LiveQueries" := F
  have hm6 := hs.1
  have hmo := hs.2.1
  refine z_aload_n (pc := 0) F dX7_look_0 rfl 0 rfl ?_
  refine z_get (pc := 1) (v := .ref (rs 0)) F iX7 0 rfl rfl 0 (by decide) tw_306 rfl dX7_look_1 ?_
  refine z_iload_n (pc := 4) F dX7_look_4 rfl 1 rfl ?_
  refine z_blk [lqw E r (rs 0) (rt 0) (rr 0) (rq 0) (mrd S (nI nq)), qaw E rq (fun q => some (rk q 0)) SQ, sw E rs SS, tpw E rt ST, rdw E rr (rt 0) xp SR, wkw E rw (rs 0) SW, k6 E rk rp rg rs rw SK SG SP] [sw E rs SS, lqw E r (rs 0) (rt 0) (rr 0) (rq 0) (mrd S (nI nq)), qaw E rq (fun q => some (rk q 0)) SQ, tpw E rt ST, rdw E rr (rt 0) xp SR, wkw E rw (rs 0) SW, k6 E rk rp rg rs rw SK SG SP] [2, 0, 1, 3, 4, 5, 6] 7 rfl (by decide) rfl ?_
  show Z X (0) (0) (sw E rs SS ++ lqw E r (rs 0) (rt 0) (rr 0) (rq 0) (mrd S (nI nq)) ++ qaw E rq (fun q => some (rk q 0)) SQ ++ tpw E rt ST ++ rdw E rr (rt 0) xp SR ++ wkw E rw (rs 0) SW ++ k6 E rk rp rg rs rw SK SG SP) [(0, .ref (r 0)), (1, .int (nI o)), (2, .int 3)] 5 [.int (nI o), .ref (rs 0)]
  refine z_perm (ws' := (sw E rs SS) ++ (lqw E r (rs 0) (rt 0) (rr 0) (rq 0) (mrd S (nI nq)) ++ qaw E rq (fun q => some (rk q 0)) SQ ++ tpw E rt ST ++ rdw E rr (rt 0) xp SR ++ wkw E rw (rs 0) SW ++ k6 E rk rp rg rs rw SK SG SP)) (List.Perm.of_eq (by first | (simp only [List.append_assoc]; done) | (simp only [List.append_assoc]; rfl))) ?_
  refine z_callVF (pc := 5) (q0 := 0) (ci := 4) (wr := lqw E r (rs 0) (rt 0) (rr 0) (rq 0) (mrd S (nI nq)) ++ qaw E rq (fun q => some (rk q 0)) SQ ++ tpw E rt ST ++ rdw E rr (rt 0) xp SR ++ wkw E rw (rs 0) SW ++ k6 E rk rp rg rs rw SK SG SP) (rest := []) F (c_X4_isThere l E rs SS m (nI o) hm6 hmo) 1 ww_LQ_161 (by decide +kernel) rfl ⟨Nat.le_of_ble_eq_true rfl, Nat.le_of_ble_eq_true rfl⟩ ⟨Nat.le_of_ble_eq_true rfl, Nat.le_of_ble_eq_true rfl⟩ rfl rfl rfl rfl (Nat.le_of_ble_eq_true rfl) dX7_look_5 (fun v_ w1_ hp => ?_)
  obtain ⟨rfl, rfl⟩ := hp
  refine z_perm (ws' := sw E rs SS ++ lqw E r (rs 0) (rt 0) (rr 0) (rq 0) (mrd S (nI nq)) ++ qaw E rq (fun q => some (rk q 0)) SQ ++ tpw E rt ST ++ rdw E rr (rt 0) xp SR ++ wkw E rw (rs 0) SW ++ k6 E rk rp rg rs rw SK SG SP) (List.Perm.of_eq (by first | (simp only [List.append_assoc]; done) | (simp only [List.append_assoc]; rfl))) ?_
  show Z X (0) (0) (sw E rs SS ++ lqw E r (rs 0) (rt 0) (rr 0) (rq 0) (mrd S (nI nq)) ++ qaw E rq (fun q => some (rk q 0)) SQ ++ tpw E rt ST ++ rdw E rr (rt 0) xp SR ++ wkw E rw (rs 0) SW ++ k6 E rk rp rg rs rw SK SG SP) [(0, .ref (r 0)), (1, .int (nI o)), (2, .int 3)] 8 [.int (bI (thB m (za SS 1) (nI o)))]
  rw [show (bI (thB m (za SS 1) (nI o))) = 1 from (thB_1 (by omega) hom hth)]
  refine z_if_ne (pc := 8) (tgt := 21) F dX7_look_8 (by decide) (fun _ => ?_) (fun h => absurd h (by decide))
  refine z_iload_n (pc := 21) F dX7_look_21 rfl 2 rfl ?_
  refine z_bipush (pc := 22) (v := 10) F dX7_look_22 (by decide) ?_
  refine z_icmp_lt (pc := 24) (tgt := 56) F dX7_look_24 (by decide) (fun _ => ?_) (fun h => absurd h (by decide))
  refine z_iload_n (pc := 56) F dX7_look_56 rfl 2 rfl ?_
  · refine z_tableIn (off := 49) (tgt := 106) (pc := 57) F dX7_look_57 (by decide) (by decide) (by decide) (by decide) ?_
    refine z_aload_n (pc := 106) F dX7_look_106 rfl 0 rfl ?_
    refine z_get (pc := 107) (v := .ref (rs 0)) F iX7 7 rfl rfl 0 (by decide) tw_306 rfl dX7_look_107 ?_
    refine z_iload_n (pc := 110) F dX7_look_110 rfl 1 rfl ?_
    refine z_perm (ws' := (sw E rs SS) ++ (lqw E r (rs 0) (rt 0) (rr 0) (rq 0) (mrd S (nI nq)) ++ qaw E rq (fun q => some (rk q 0)) SQ ++ tpw E rt ST ++ rdw E rr (rt 0) xp SR ++ wkw E rw (rs 0) SW ++ k6 E rk rp rg rs rw SK SG SP)) (List.Perm.of_eq (by first | (simp only [List.append_assoc]; done) | (simp only [List.append_assoc]; rfl))) ?_
    refine z_callVF (pc := 111) (q0 := 0) (ci := 4) (wr := lqw E r (rs 0) (rt 0) (rr 0) (rq 0) (mrd S (nI nq)) ++ qaw E rq (fun q => some (rk q 0)) SQ ++ tpw E rt ST ++ rdw E rr (rt 0) xp SR ++ wkw E rw (rs 0) SW ++ k6 E rk rp rg rs rw SK SG SP) (rest := []) F (c_X4_referenceOf_s l E rs SS m o hm6 hmo hom hth) 1 ww_LQ_180 (by decide +kernel) rfl ⟨Nat.le_of_ble_eq_true rfl, Nat.le_of_ble_eq_true rfl⟩ ⟨Nat.le_of_ble_eq_true rfl, Nat.le_of_ble_eq_true rfl⟩ rfl rfl rfl rfl (Nat.le_of_ble_eq_true rfl) dX7_look_111 (fun v_ w1_ hp => ?_)
    obtain ⟨rfl, rfl⟩ := hp
    refine z_perm (ws' := sw E rs SS ++ lqw E r (rs 0) (rt 0) (rr 0) (rq 0) (mrd S (nI nq)) ++ qaw E rq (fun q => some (rk q 0)) SQ ++ tpw E rt ST ++ rdw E rr (rt 0) xp SR ++ wkw E rw (rs 0) SW ++ k6 E rk rp rg rs rw SK SG SP) (List.Perm.of_eq (by first | (simp only [List.append_assoc]; done) | (simp only [List.append_assoc]; rfl))) ?_
    show Z X (0) (0) (sw E rs SS ++ lqw E r (rs 0) (rt 0) (rr 0) (rq 0) (mrd S (nI nq)) ++ qaw E rq (fun q => some (rk q 0)) SQ ++ tpw E rt ST ++ rdw E rr (rt 0) xp SR ++ wkw E rw (rs 0) SW ++ k6 E rk rp rg rs rw SK SG SP) [(0, .ref (r 0)), (1, .int (nI o)), (2, .int 3)] 114 [.int (za SS 3 o)]
    refine z_i2l (pc := 114) F dX7_look_114 ?_
    refine z_blk [sw E rs SS, lqw E r (rs 0) (rt 0) (rr 0) (rq 0) (mrd S (nI nq)), qaw E rq (fun q => some (rk q 0)) SQ, tpw E rt ST, rdw E rr (rt 0) xp SR, wkw E rw (rs 0) SW, k6 E rk rp rg rs rw SK SG SP] [lqw E r (rs 0) (rt 0) (rr 0) (rq 0) (mrd S (nI nq)), qaw E rq (fun q => some (rk q 0)) SQ, sw E rs SS, tpw E rt ST, rdw E rr (rt 0) xp SR, wkw E rw (rs 0) SW, k6 E rk rp rg rs rw SK SG SP] [1, 2, 0, 3, 4, 5, 6] 7 rfl (by decide) rfl ?_
    show Z X (0) (0) (lqw E r (rs 0) (rt 0) (rr 0) (rq 0) (mrd S (nI nq)) ++ qaw E rq (fun q => some (rk q 0)) SQ ++ sw E rs SS ++ tpw E rt ST ++ rdw E rr (rt 0) xp SR ++ wkw E rw (rs 0) SW ++ k6 E rk rp rg rs rw SK SG SP) [(0, .ref (r 0)), (1, .int (nI o)), (2, .int 3)] 115 [.long ((za SS 3 o).toInt64)]
    exact z_lret (pc := 115) F hR dX7_look_115 (Nat.le_of_ble_eq_true rfl) (Nat.le_of_ble_eq_true rfl) ⟨rfl, rfl⟩
set_option maxHeartbeats 4000000 in
set_option maxRecDepth 100000 in
theorem c_X7_look_4 (l : Launch) (E : zE) (r : Nat → Nat) (rs : Nat → Nat) (rt : Nat → Nat) (rr : Nat → Nat) (rq : Nat → Nat) (rw : Nat → Nat) (rk : Nat → Nat → Nat) (rp : Nat → Nat → Nat) (rg : Nat → Nat → Nat) (S : zS) (SQ : zS) (SS : zS) (ST : zS) (SR : zS) (SW : zS) (SK : Nat → zS) (SG : Nat → zS) (SP : Nat → zS) (xp : Value) (nq : Nat) (m : Nat) (o : Nat) (hs : stOk SS m) (hom : o < m) (hth : ¬ za SS 1 o = 0) : Ct l yX7_look cX7_look 3 (some .long) ({ frames := 4, cells := 0, slots := 0, locals := 140 } : Room) E (lqw E r (rs 0) (rt 0) (rr 0) (rq 0) (mrd S (nI nq)) ++ qaw E rq (fun q => some (rk q 0)) SQ ++ sw E rs SS ++ tpw E rt ST ++ rdw E rr (rt 0) xp SR ++ wkw E rw (rs 0) SW ++ k6 E rk rp rg rs rw SK SG SP) [.ref (r 0), .int (nI o), .int 4] (fun v_ w_ => v_ = some (.long ((za SS 4 o).toInt64)) ∧ w_ = lqw E r (rs 0) (rt 0) (rr 0) (rq 0) (mrd S (nI nq)) ++ qaw E rq (fun q => some (rk q 0)) SQ ++ sw E rs SS ++ tpw E rt ST ++ rdw E rr (rt 0) xp SR ++ wkw E rw (rs 0) SW ++ k6 E rk rp rg rs rw SK SG SP) := by
  refine Ct.of (by decide) (Nat.le_of_ble_eq_true rfl) (lv := [(0, .ref (r 0)), (1, .int (nI o)), (2, .int 4)]) rfl ?_
  intro X F hR
  have F : zF X l ({ frames := 4, cells := 0, slots := 0, locals := 140 } : Room) E cX7_look 3 "LiveQueries" := F
  have hm6 := hs.1
  have hmo := hs.2.1
  refine z_aload_n (pc := 0) F dX7_look_0 rfl 0 rfl ?_
  refine z_get (pc := 1) (v := .ref (rs 0)) F iX7 0 rfl rfl 0 (by decide) tw_306 rfl dX7_look_1 ?_
  refine z_iload_n (pc := 4) F dX7_look_4 rfl 1 rfl ?_
  refine z_blk [lqw E r (rs 0) (rt 0) (rr 0) (rq 0) (mrd S (nI nq)), qaw E rq (fun q => some (rk q 0)) SQ, sw E rs SS, tpw E rt ST, rdw E rr (rt 0) xp SR, wkw E rw (rs 0) SW, k6 E rk rp rg rs rw SK SG SP] [sw E rs SS, lqw E r (rs 0) (rt 0) (rr 0) (rq 0) (mrd S (nI nq)), qaw E rq (fun q => some (rk q 0)) SQ, tpw E rt ST, rdw E rr (rt 0) xp SR, wkw E rw (rs 0) SW, k6 E rk rp rg rs rw SK SG SP] [2, 0, 1, 3, 4, 5, 6] 7 rfl (by decide) rfl ?_
  show Z X (0) (0) (sw E rs SS ++ lqw E r (rs 0) (rt 0) (rr 0) (rq 0) (mrd S (nI nq)) ++ qaw E rq (fun q => some (rk q 0)) SQ ++ tpw E rt ST ++ rdw E rr (rt 0) xp SR ++ wkw E rw (rs 0) SW ++ k6 E rk rp rg rs rw SK SG SP) [(0, .ref (r 0)), (1, .int (nI o)), (2, .int 4)] 5 [.int (nI o), .ref (rs 0)]
  refine z_perm (ws' := (sw E rs SS) ++ (lqw E r (rs 0) (rt 0) (rr 0) (rq 0) (mrd S (nI nq)) ++ qaw E rq (fun q => some (rk q 0)) SQ ++ tpw E rt ST ++ rdw E rr (rt 0) xp SR ++ wkw E rw (rs 0) SW ++ k6 E rk rp rg rs rw SK SG SP)) (List.Perm.of_eq (by first | (simp only [List.append_assoc]; done) | (simp only [List.append_assoc]; rfl))) ?_
  refine z_callVF (pc := 5) (q0 := 0) (ci := 4) (wr := lqw E r (rs 0) (rt 0) (rr 0) (rq 0) (mrd S (nI nq)) ++ qaw E rq (fun q => some (rk q 0)) SQ ++ tpw E rt ST ++ rdw E rr (rt 0) xp SR ++ wkw E rw (rs 0) SW ++ k6 E rk rp rg rs rw SK SG SP) (rest := []) F (c_X4_isThere l E rs SS m (nI o) hm6 hmo) 1 ww_LQ_161 (by decide +kernel) rfl ⟨Nat.le_of_ble_eq_true rfl, Nat.le_of_ble_eq_true rfl⟩ ⟨Nat.le_of_ble_eq_true rfl, Nat.le_of_ble_eq_true rfl⟩ rfl rfl rfl rfl (Nat.le_of_ble_eq_true rfl) dX7_look_5 (fun v_ w1_ hp => ?_)
  obtain ⟨rfl, rfl⟩ := hp
  refine z_perm (ws' := sw E rs SS ++ lqw E r (rs 0) (rt 0) (rr 0) (rq 0) (mrd S (nI nq)) ++ qaw E rq (fun q => some (rk q 0)) SQ ++ tpw E rt ST ++ rdw E rr (rt 0) xp SR ++ wkw E rw (rs 0) SW ++ k6 E rk rp rg rs rw SK SG SP) (List.Perm.of_eq (by first | (simp only [List.append_assoc]; done) | (simp only [List.append_assoc]; rfl))) ?_
  show Z X (0) (0) (sw E rs SS ++ lqw E r (rs 0) (rt 0) (rr 0) (rq 0) (mrd S (nI nq)) ++ qaw E rq (fun q => some (rk q 0)) SQ ++ tpw E rt ST ++ rdw E rr (rt 0) xp SR ++ wkw E rw (rs 0) SW ++ k6 E rk rp rg rs rw SK SG SP) [(0, .ref (r 0)), (1, .int (nI o)), (2, .int 4)] 8 [.int (bI (thB m (za SS 1) (nI o)))]
  rw [show (bI (thB m (za SS 1) (nI o))) = 1 from (thB_1 (by omega) hom hth)]
  refine z_if_ne (pc := 8) (tgt := 21) F dX7_look_8 (by decide) (fun _ => ?_) (fun h => absurd h (by decide))
  refine z_iload_n (pc := 21) F dX7_look_21 rfl 2 rfl ?_
  refine z_bipush (pc := 22) (v := 10) F dX7_look_22 (by decide) ?_
  refine z_icmp_lt (pc := 24) (tgt := 56) F dX7_look_24 (by decide) (fun _ => ?_) (fun h => absurd h (by decide))
  refine z_iload_n (pc := 56) F dX7_look_56 rfl 2 rfl ?_
  · refine z_tableIn (off := 59) (tgt := 116) (pc := 57) F dX7_look_57 (by decide) (by decide) (by decide) (by decide) ?_
    refine z_aload_n (pc := 116) F dX7_look_116 rfl 0 rfl ?_
    refine z_get (pc := 117) (v := .ref (rs 0)) F iX7 7 rfl rfl 0 (by decide) tw_306 rfl dX7_look_117 ?_
    refine z_iload_n (pc := 120) F dX7_look_120 rfl 1 rfl ?_
    refine z_perm (ws' := (sw E rs SS) ++ (lqw E r (rs 0) (rt 0) (rr 0) (rq 0) (mrd S (nI nq)) ++ qaw E rq (fun q => some (rk q 0)) SQ ++ tpw E rt ST ++ rdw E rr (rt 0) xp SR ++ wkw E rw (rs 0) SW ++ k6 E rk rp rg rs rw SK SG SP)) (List.Perm.of_eq (by first | (simp only [List.append_assoc]; done) | (simp only [List.append_assoc]; rfl))) ?_
    refine z_callVF (pc := 121) (q0 := 0) (ci := 4) (wr := lqw E r (rs 0) (rt 0) (rr 0) (rq 0) (mrd S (nI nq)) ++ qaw E rq (fun q => some (rk q 0)) SQ ++ tpw E rt ST ++ rdw E rr (rt 0) xp SR ++ wkw E rw (rs 0) SW ++ k6 E rk rp rg rs rw SK SG SP) (rest := []) F (c_X4_lengthOf_s l E rs SS m o hm6 hmo hom) 1 ww_LQ_183 (by decide +kernel) rfl ⟨Nat.le_of_ble_eq_true rfl, Nat.le_of_ble_eq_true rfl⟩ ⟨Nat.le_of_ble_eq_true rfl, Nat.le_of_ble_eq_true rfl⟩ rfl rfl rfl rfl (Nat.le_of_ble_eq_true rfl) dX7_look_121 (fun v_ w1_ hp => ?_)
    obtain ⟨rfl, rfl⟩ := hp
    refine z_perm (ws' := sw E rs SS ++ lqw E r (rs 0) (rt 0) (rr 0) (rq 0) (mrd S (nI nq)) ++ qaw E rq (fun q => some (rk q 0)) SQ ++ tpw E rt ST ++ rdw E rr (rt 0) xp SR ++ wkw E rw (rs 0) SW ++ k6 E rk rp rg rs rw SK SG SP) (List.Perm.of_eq (by first | (simp only [List.append_assoc]; done) | (simp only [List.append_assoc]; rfl))) ?_
    show Z X (0) (0) (sw E rs SS ++ lqw E r (rs 0) (rt 0) (rr 0) (rq 0) (mrd S (nI nq)) ++ qaw E rq (fun q => some (rk q 0)) SQ ++ tpw E rt ST ++ rdw E rr (rt 0) xp SR ++ wkw E rw (rs 0) SW ++ k6 E rk rp rg rs rw SK SG SP) [(0, .ref (r 0)), (1, .int (nI o)), (2, .int 4)] 124 [.int (za SS 4 o)]
    refine z_i2l (pc := 124) F dX7_look_124 ?_
    refine z_blk [sw E rs SS, lqw E r (rs 0) (rt 0) (rr 0) (rq 0) (mrd S (nI nq)), qaw E rq (fun q => some (rk q 0)) SQ, tpw E rt ST, rdw E rr (rt 0) xp SR, wkw E rw (rs 0) SW, k6 E rk rp rg rs rw SK SG SP] [lqw E r (rs 0) (rt 0) (rr 0) (rq 0) (mrd S (nI nq)), qaw E rq (fun q => some (rk q 0)) SQ, sw E rs SS, tpw E rt ST, rdw E rr (rt 0) xp SR, wkw E rw (rs 0) SW, k6 E rk rp rg rs rw SK SG SP] [1, 2, 0, 3, 4, 5, 6] 7 rfl (by decide) rfl ?_
    show Z X (0) (0) (lqw E r (rs 0) (rt 0) (rr 0) (rq 0) (mrd S (nI nq)) ++ qaw E rq (fun q => some (rk q 0)) SQ ++ sw E rs SS ++ tpw E rt ST ++ rdw E rr (rt 0) xp SR ++ wkw E rw (rs 0) SW ++ k6 E rk rp rg rs rw SK SG SP) [(0, .ref (r 0)), (1, .int (nI o)), (2, .int 4)] 125 [.long ((za SS 4 o).toInt64)]
    exact z_lret (pc := 125) F hR dX7_look_125 (Nat.le_of_ble_eq_true rfl) (Nat.le_of_ble_eq_true rfl) ⟨rfl, rfl⟩
set_option maxHeartbeats 4000000 in
set_option maxRecDepth 100000 in
theorem c_X7_look_5 (l : Launch) (E : zE) (r : Nat → Nat) (rs : Nat → Nat) (rt : Nat → Nat) (rr : Nat → Nat) (rq : Nat → Nat) (rw : Nat → Nat) (rk : Nat → Nat → Nat) (rp : Nat → Nat → Nat) (rg : Nat → Nat → Nat) (S : zS) (SQ : zS) (SS : zS) (ST : zS) (SR : zS) (SW : zS) (SK : Nat → zS) (SG : Nat → zS) (SP : Nat → zS) (xp : Value) (nq : Nat) (m : Nat) (o : Nat) (hs : stOk SS m) (hom : o < m) (hth : ¬ za SS 1 o = 0) : Ct l yX7_look cX7_look 3 (some .long) ({ frames := 4, cells := 0, slots := 0, locals := 140 } : Room) E (lqw E r (rs 0) (rt 0) (rr 0) (rq 0) (mrd S (nI nq)) ++ qaw E rq (fun q => some (rk q 0)) SQ ++ sw E rs SS ++ tpw E rt ST ++ rdw E rr (rt 0) xp SR ++ wkw E rw (rs 0) SW ++ k6 E rk rp rg rs rw SK SG SP) [.ref (r 0), .int (nI o), .int 5] (fun v_ w_ => v_ = some (.long ((za SS 2 o).toInt64)) ∧ w_ = lqw E r (rs 0) (rt 0) (rr 0) (rq 0) (mrd S (nI nq)) ++ qaw E rq (fun q => some (rk q 0)) SQ ++ sw E rs SS ++ tpw E rt ST ++ rdw E rr (rt 0) xp SR ++ wkw E rw (rs 0) SW ++ k6 E rk rp rg rs rw SK SG SP) := by
  refine Ct.of (by decide) (Nat.le_of_ble_eq_true rfl) (lv := [(0, .ref (r 0)), (1, .int (nI o)), (2, .int 5)]) rfl ?_
  intro X F hR
  have F : zF X l ({ frames := 4, cells := 0, slots := 0, locals := 140 } : Room) E cX7_look 3 "LiveQueries" := F
  have hm6 := hs.1
  have hmo := hs.2.1
  refine z_aload_n (pc := 0) F dX7_look_0 rfl 0 rfl ?_
  refine z_get (pc := 1) (v := .ref (rs 0)) F iX7 0 rfl rfl 0 (by decide) tw_306 rfl dX7_look_1 ?_
  refine z_iload_n (pc := 4) F dX7_look_4 rfl 1 rfl ?_
  refine z_blk [lqw E r (rs 0) (rt 0) (rr 0) (rq 0) (mrd S (nI nq)), qaw E rq (fun q => some (rk q 0)) SQ, sw E rs SS, tpw E rt ST, rdw E rr (rt 0) xp SR, wkw E rw (rs 0) SW, k6 E rk rp rg rs rw SK SG SP] [sw E rs SS, lqw E r (rs 0) (rt 0) (rr 0) (rq 0) (mrd S (nI nq)), qaw E rq (fun q => some (rk q 0)) SQ, tpw E rt ST, rdw E rr (rt 0) xp SR, wkw E rw (rs 0) SW, k6 E rk rp rg rs rw SK SG SP] [2, 0, 1, 3, 4, 5, 6] 7 rfl (by decide) rfl ?_
  show Z X (0) (0) (sw E rs SS ++ lqw E r (rs 0) (rt 0) (rr 0) (rq 0) (mrd S (nI nq)) ++ qaw E rq (fun q => some (rk q 0)) SQ ++ tpw E rt ST ++ rdw E rr (rt 0) xp SR ++ wkw E rw (rs 0) SW ++ k6 E rk rp rg rs rw SK SG SP) [(0, .ref (r 0)), (1, .int (nI o)), (2, .int 5)] 5 [.int (nI o), .ref (rs 0)]
  refine z_perm (ws' := (sw E rs SS) ++ (lqw E r (rs 0) (rt 0) (rr 0) (rq 0) (mrd S (nI nq)) ++ qaw E rq (fun q => some (rk q 0)) SQ ++ tpw E rt ST ++ rdw E rr (rt 0) xp SR ++ wkw E rw (rs 0) SW ++ k6 E rk rp rg rs rw SK SG SP)) (List.Perm.of_eq (by first | (simp only [List.append_assoc]; done) | (simp only [List.append_assoc]; rfl))) ?_
  refine z_callVF (pc := 5) (q0 := 0) (ci := 4) (wr := lqw E r (rs 0) (rt 0) (rr 0) (rq 0) (mrd S (nI nq)) ++ qaw E rq (fun q => some (rk q 0)) SQ ++ tpw E rt ST ++ rdw E rr (rt 0) xp SR ++ wkw E rw (rs 0) SW ++ k6 E rk rp rg rs rw SK SG SP) (rest := []) F (c_X4_isThere l E rs SS m (nI o) hm6 hmo) 1 ww_LQ_161 (by decide +kernel) rfl ⟨Nat.le_of_ble_eq_true rfl, Nat.le_of_ble_eq_true rfl⟩ ⟨Nat.le_of_ble_eq_true rfl, Nat.le_of_ble_eq_true rfl⟩ rfl rfl rfl rfl (Nat.le_of_ble_eq_true rfl) dX7_look_5 (fun v_ w1_ hp => ?_)
  obtain ⟨rfl, rfl⟩ := hp
  refine z_perm (ws' := sw E rs SS ++ lqw E r (rs 0) (rt 0) (rr 0) (rq 0) (mrd S (nI nq)) ++ qaw E rq (fun q => some (rk q 0)) SQ ++ tpw E rt ST ++ rdw E rr (rt 0) xp SR ++ wkw E rw (rs 0) SW ++ k6 E rk rp rg rs rw SK SG SP) (List.Perm.of_eq (by first | (simp only [List.append_assoc]; done) | (simp only [List.append_assoc]; rfl))) ?_
  show Z X (0) (0) (sw E rs SS ++ lqw E r (rs 0) (rt 0) (rr 0) (rq 0) (mrd S (nI nq)) ++ qaw E rq (fun q => some (rk q 0)) SQ ++ tpw E rt ST ++ rdw E rr (rt 0) xp SR ++ wkw E rw (rs 0) SW ++ k6 E rk rp rg rs rw SK SG SP) [(0, .ref (r 0)), (1, .int (nI o)), (2, .int 5)] 8 [.int (bI (thB m (za SS 1) (nI o)))]
  rw [show (bI (thB m (za SS 1) (nI o))) = 1 from (thB_1 (by omega) hom hth)]
  refine z_if_ne (pc := 8) (tgt := 21) F dX7_look_8 (by decide) (fun _ => ?_) (fun h => absurd h (by decide))
  refine z_iload_n (pc := 21) F dX7_look_21 rfl 2 rfl ?_
  refine z_bipush (pc := 22) (v := 10) F dX7_look_22 (by decide) ?_
  refine z_icmp_lt (pc := 24) (tgt := 56) F dX7_look_24 (by decide) (fun _ => ?_) (fun h => absurd h (by decide))
  refine z_iload_n (pc := 56) F dX7_look_56 rfl 2 rfl ?_
  · refine z_tableIn (off := 69) (tgt := 126) (pc := 57) F dX7_look_57 (by decide) (by decide) (by decide) (by decide) ?_
    refine z_aload_n (pc := 126) F dX7_look_126 rfl 0 rfl ?_
    refine z_get (pc := 127) (v := .ref (rs 0)) F iX7 7 rfl rfl 0 (by decide) tw_306 rfl dX7_look_127 ?_
    refine z_iload_n (pc := 130) F dX7_look_130 rfl 1 rfl ?_
    refine z_perm (ws' := (sw E rs SS) ++ (lqw E r (rs 0) (rt 0) (rr 0) (rq 0) (mrd S (nI nq)) ++ qaw E rq (fun q => some (rk q 0)) SQ ++ tpw E rt ST ++ rdw E rr (rt 0) xp SR ++ wkw E rw (rs 0) SW ++ k6 E rk rp rg rs rw SK SG SP)) (List.Perm.of_eq (by first | (simp only [List.append_assoc]; done) | (simp only [List.append_assoc]; rfl))) ?_
    refine z_callVF (pc := 131) (q0 := 0) (ci := 4) (wr := lqw E r (rs 0) (rt 0) (rr 0) (rq 0) (mrd S (nI nq)) ++ qaw E rq (fun q => some (rk q 0)) SQ ++ tpw E rt ST ++ rdw E rr (rt 0) xp SR ++ wkw E rw (rs 0) SW ++ k6 E rk rp rg rs rw SK SG SP) (rest := []) F (c_X4_kindOf_s l E rs SS m o hm6 hmo hom hth) 1 ww_LQ_186 (by decide +kernel) rfl ⟨Nat.le_of_ble_eq_true rfl, Nat.le_of_ble_eq_true rfl⟩ ⟨Nat.le_of_ble_eq_true rfl, Nat.le_of_ble_eq_true rfl⟩ rfl rfl rfl rfl (Nat.le_of_ble_eq_true rfl) dX7_look_131 (fun v_ w1_ hp => ?_)
    obtain ⟨rfl, rfl⟩ := hp
    refine z_perm (ws' := sw E rs SS ++ lqw E r (rs 0) (rt 0) (rr 0) (rq 0) (mrd S (nI nq)) ++ qaw E rq (fun q => some (rk q 0)) SQ ++ tpw E rt ST ++ rdw E rr (rt 0) xp SR ++ wkw E rw (rs 0) SW ++ k6 E rk rp rg rs rw SK SG SP) (List.Perm.of_eq (by first | (simp only [List.append_assoc]; done) | (simp only [List.append_assoc]; rfl))) ?_
    show Z X (0) (0) (sw E rs SS ++ lqw E r (rs 0) (rt 0) (rr 0) (rq 0) (mrd S (nI nq)) ++ qaw E rq (fun q => some (rk q 0)) SQ ++ tpw E rt ST ++ rdw E rr (rt 0) xp SR ++ wkw E rw (rs 0) SW ++ k6 E rk rp rg rs rw SK SG SP) [(0, .ref (r 0)), (1, .int (nI o)), (2, .int 5)] 134 [.int (za SS 2 o)]
    refine z_i2l (pc := 134) F dX7_look_134 ?_
    refine z_blk [sw E rs SS, lqw E r (rs 0) (rt 0) (rr 0) (rq 0) (mrd S (nI nq)), qaw E rq (fun q => some (rk q 0)) SQ, tpw E rt ST, rdw E rr (rt 0) xp SR, wkw E rw (rs 0) SW, k6 E rk rp rg rs rw SK SG SP] [lqw E r (rs 0) (rt 0) (rr 0) (rq 0) (mrd S (nI nq)), qaw E rq (fun q => some (rk q 0)) SQ, sw E rs SS, tpw E rt ST, rdw E rr (rt 0) xp SR, wkw E rw (rs 0) SW, k6 E rk rp rg rs rw SK SG SP] [1, 2, 0, 3, 4, 5, 6] 7 rfl (by decide) rfl ?_
    show Z X (0) (0) (lqw E r (rs 0) (rt 0) (rr 0) (rq 0) (mrd S (nI nq)) ++ qaw E rq (fun q => some (rk q 0)) SQ ++ sw E rs SS ++ tpw E rt ST ++ rdw E rr (rt 0) xp SR ++ wkw E rw (rs 0) SW ++ k6 E rk rp rg rs rw SK SG SP) [(0, .ref (r 0)), (1, .int (nI o)), (2, .int 5)] 135 [.long ((za SS 2 o).toInt64)]
    exact z_lret (pc := 135) F hR dX7_look_135 (Nat.le_of_ble_eq_true rfl) (Nat.le_of_ble_eq_true rfl) ⟨rfl, rfl⟩
set_option maxHeartbeats 4000000 in
set_option maxRecDepth 100000 in
theorem c_X7_look_i (l : Launch) (E : zE) (r : Nat → Nat) (rs : Nat → Nat) (rt : Nat → Nat) (rr : Nat → Nat) (rq : Nat → Nat) (rw : Nat → Nat) (rk : Nat → Nat → Nat) (rp : Nat → Nat → Nat) (rg : Nat → Nat → Nat) (S : zS) (SQ : zS) (SS : zS) (ST : zS) (SR : zS) (SW : zS) (SK : Nat → zS) (SG : Nat → zS) (SP : Nat → zS) (xp : Value) (nq : Nat) (m : Nat) (o : Nat) (i : Nat) (hs : stOk SS m) (hom : o < m) (hth : ¬ za SS 1 o = 0) (hi : ¬ (nI i).toInt64 < 0 ∧ ¬ (za SS 4 o).toInt64 ≤ (nI i).toInt64) (hi8 : i < 8) : Ct l yX7_look cX7_look 3 (some .long) ({ frames := 4, cells := 0, slots := 0, locals := 140 } : Room) E (lqw E r (rs 0) (rt 0) (rr 0) (rq 0) (mrd S (nI nq)) ++ qaw E rq (fun q => some (rk q 0)) SQ ++ sw E rs SS ++ tpw E rt ST ++ rdw E rr (rt 0) xp SR ++ wkw E rw (rs 0) SW ++ k6 E rk rp rg rs rw SK SG SP) [.ref (r 0), .int (nI o), .int (nI (10 + i))] (fun v_ w_ => v_ = some (.long (zb SS 6 (8 * o + i))) ∧ w_ = lqw E r (rs 0) (rt 0) (rr 0) (rq 0) (mrd S (nI nq)) ++ qaw E rq (fun q => some (rk q 0)) SQ ++ sw E rs SS ++ tpw E rt ST ++ rdw E rr (rt 0) xp SR ++ wkw E rw (rs 0) SW ++ k6 E rk rp rg rs rw SK SG SP) := by
  refine Ct.of (by decide) (Nat.le_of_ble_eq_true rfl) (lv := [(0, .ref (r 0)), (1, .int (nI o)), (2, .int (nI (10 + i)))]) rfl ?_
  intro X F hR
  have F : zF X l ({ frames := 4, cells := 0, slots := 0, locals := 140 } : Room) E cX7_look 3 "LiveQueries" := F
  have hm6 := hs.1
  have hmo := hs.2.1
  refine z_aload_n (pc := 0) F dX7_look_0 rfl 0 rfl ?_
  refine z_get (pc := 1) (v := .ref (rs 0)) F iX7 0 rfl rfl 0 (by decide) tw_306 rfl dX7_look_1 ?_
  refine z_iload_n (pc := 4) F dX7_look_4 rfl 1 rfl ?_
  refine z_blk [lqw E r (rs 0) (rt 0) (rr 0) (rq 0) (mrd S (nI nq)), qaw E rq (fun q => some (rk q 0)) SQ, sw E rs SS, tpw E rt ST, rdw E rr (rt 0) xp SR, wkw E rw (rs 0) SW, k6 E rk rp rg rs rw SK SG SP] [sw E rs SS, lqw E r (rs 0) (rt 0) (rr 0) (rq 0) (mrd S (nI nq)), qaw E rq (fun q => some (rk q 0)) SQ, tpw E rt ST, rdw E rr (rt 0) xp SR, wkw E rw (rs 0) SW, k6 E rk rp rg rs rw SK SG SP] [2, 0, 1, 3, 4, 5, 6] 7 rfl (by decide) rfl ?_
  show Z X (0) (0) (sw E rs SS ++ lqw E r (rs 0) (rt 0) (rr 0) (rq 0) (mrd S (nI nq)) ++ qaw E rq (fun q => some (rk q 0)) SQ ++ tpw E rt ST ++ rdw E rr (rt 0) xp SR ++ wkw E rw (rs 0) SW ++ k6 E rk rp rg rs rw SK SG SP) [(0, .ref (r 0)), (1, .int (nI o)), (2, .int (nI (10 + i)))] 5 [.int (nI o), .ref (rs 0)]
  refine z_perm (ws' := (sw E rs SS) ++ (lqw E r (rs 0) (rt 0) (rr 0) (rq 0) (mrd S (nI nq)) ++ qaw E rq (fun q => some (rk q 0)) SQ ++ tpw E rt ST ++ rdw E rr (rt 0) xp SR ++ wkw E rw (rs 0) SW ++ k6 E rk rp rg rs rw SK SG SP)) (List.Perm.of_eq (by first | (simp only [List.append_assoc]; done) | (simp only [List.append_assoc]; rfl))) ?_
  refine z_callVF (pc := 5) (q0 := 0) (ci := 4) (wr := lqw E r (rs 0) (rt 0) (rr 0) (rq 0) (mrd S (nI nq)) ++ qaw E rq (fun q => some (rk q 0)) SQ ++ tpw E rt ST ++ rdw E rr (rt 0) xp SR ++ wkw E rw (rs 0) SW ++ k6 E rk rp rg rs rw SK SG SP) (rest := []) F (c_X4_isThere l E rs SS m (nI o) hm6 hmo) 1 ww_LQ_161 (by decide +kernel) rfl ⟨Nat.le_of_ble_eq_true rfl, Nat.le_of_ble_eq_true rfl⟩ ⟨Nat.le_of_ble_eq_true rfl, Nat.le_of_ble_eq_true rfl⟩ rfl rfl rfl rfl (Nat.le_of_ble_eq_true rfl) dX7_look_5 (fun v_ w1_ hp => ?_)
  obtain ⟨rfl, rfl⟩ := hp
  refine z_perm (ws' := sw E rs SS ++ lqw E r (rs 0) (rt 0) (rr 0) (rq 0) (mrd S (nI nq)) ++ qaw E rq (fun q => some (rk q 0)) SQ ++ tpw E rt ST ++ rdw E rr (rt 0) xp SR ++ wkw E rw (rs 0) SW ++ k6 E rk rp rg rs rw SK SG SP) (List.Perm.of_eq (by first | (simp only [List.append_assoc]; done) | (simp only [List.append_assoc]; rfl))) ?_
  show Z X (0) (0) (sw E rs SS ++ lqw E r (rs 0) (rt 0) (rr 0) (rq 0) (mrd S (nI nq)) ++ qaw E rq (fun q => some (rk q 0)) SQ ++ tpw E rt ST ++ rdw E rr (rt 0) xp SR ++ wkw E rw (rs 0) SW ++ k6 E rk rp rg rs rw SK SG SP) [(0, .ref (r 0)), (1, .int (nI o)), (2, .int (nI (10 + i)))] 8 [.int (bI (thB m (za SS 1) (nI o)))]
  rw [show (bI (thB m (za SS 1) (nI o))) = 1 from (thB_1 (by omega) hom hth)]
  refine z_if_ne (pc := 8) (tgt := 21) F dX7_look_8 (by decide) (fun _ => ?_) (fun h => absurd h (by decide))
  refine z_iload_n (pc := 21) F dX7_look_21 rfl 2 rfl ?_
  refine z_bipush (pc := 22) (v := 10) F dX7_look_22 (by decide) ?_
  refine z_icmp_lt (pc := 24) (tgt := 56) F dX7_look_24 (by decide) (fun c24 => absurd c24 (fun h => absurd ((nI_ltI (b := 10) (by omega) (by decide)).mp h) (by omega))) (fun c24 => ?_)
  refine z_aload_n (pc := 27) F dX7_look_27 rfl 0 rfl ?_
  refine z_get (pc := 28) (v := .ref (rs 0)) F iX7 7 rfl rfl 0 (by decide) tw_306 rfl dX7_look_28 ?_
  refine z_iload_n (pc := 31) F dX7_look_31 rfl 1 rfl ?_
  refine z_iload_n (pc := 32) F dX7_look_32 rfl 2 rfl ?_
  refine z_bipush (pc := 33) (v := 10) F dX7_look_33 (by decide) ?_
  refine z_isub (pc := 35) F dX7_look_35 ?_
  rw [show ((nI (10 + i)) - 10) = nI i from (by rw [show (10 : Int32) = nI 10 from rfl, pk_sub (by omega)]; congr 1; omega)]
  refine z_i2l (pc := 36) F dX7_look_36 ?_
  refine z_perm (ws' := (sw E rs SS) ++ (lqw E r (rs 0) (rt 0) (rr 0) (rq 0) (mrd S (nI nq)) ++ qaw E rq (fun q => some (rk q 0)) SQ ++ tpw E rt ST ++ rdw E rr (rt 0) xp SR ++ wkw E rw (rs 0) SW ++ k6 E rk rp rg rs rw SK SG SP)) (List.Perm.of_eq (by first | (simp only [List.append_assoc]; done) | (simp only [List.append_assoc]; rfl))) ?_
  refine z_callVF (pc := 37) (q0 := 0) (ci := 4) (wr := lqw E r (rs 0) (rt 0) (rr 0) (rq 0) (mrd S (nI nq)) ++ qaw E rq (fun q => some (rk q 0)) SQ ++ tpw E rt ST ++ rdw E rr (rt 0) xp SR ++ wkw E rw (rs 0) SW ++ k6 E rk rp rg rs rw SK SG SP) (rest := []) F (c_X4_hasItem l E rs SS m (nI o) ((nI i).toInt64) hm6 hmo) 2 ww_LQ_169 (by decide +kernel) rfl ⟨Nat.le_of_ble_eq_true rfl, Nat.le_of_ble_eq_true rfl⟩ ⟨Nat.le_of_ble_eq_true rfl, Nat.le_of_ble_eq_true rfl⟩ rfl rfl rfl rfl (Nat.le_of_ble_eq_true rfl) dX7_look_37 (fun v_ w1_ hp => ?_)
  obtain ⟨rfl, rfl⟩ := hp
  refine z_perm (ws' := sw E rs SS ++ lqw E r (rs 0) (rt 0) (rr 0) (rq 0) (mrd S (nI nq)) ++ qaw E rq (fun q => some (rk q 0)) SQ ++ tpw E rt ST ++ rdw E rr (rt 0) xp SR ++ wkw E rw (rs 0) SW ++ k6 E rk rp rg rs rw SK SG SP) (List.Perm.of_eq (by first | (simp only [List.append_assoc]; done) | (simp only [List.append_assoc]; rfl))) ?_
  show Z X (0) (0) (sw E rs SS ++ lqw E r (rs 0) (rt 0) (rr 0) (rq 0) (mrd S (nI nq)) ++ qaw E rq (fun q => some (rk q 0)) SQ ++ tpw E rt ST ++ rdw E rr (rt 0) xp SR ++ wkw E rw (rs 0) SW ++ k6 E rk rp rg rs rw SK SG SP) [(0, .ref (r 0)), (1, .int (nI o)), (2, .int (nI (10 + i)))] 40 [.int (bI (hasB m (za SS 4) (nI o) ((nI i).toInt64)))]
  rw [show (bI (hasB m (za SS 4) (nI o) ((nI i).toInt64))) = 1 from (by rw [hasB_nI (by omega) hom]; exact congrArg bI (decide_eq_true hi))]
  refine z_if_eq (pc := 40) (tgt := 56) F dX7_look_40 (by decide) (fun h => absurd h (by decide)) (fun _ => ?_)
  refine z_aload_n (pc := 43) F dX7_look_43 rfl 0 rfl ?_
  refine z_get (pc := 44) (v := .ref (rs 0)) F iX7 7 rfl rfl 0 (by decide) tw_306 rfl dX7_look_44 ?_
  refine z_iload_n (pc := 47) F dX7_look_47 rfl 1 rfl ?_
  refine z_iload_n (pc := 48) F dX7_look_48 rfl 2 rfl ?_
  refine z_bipush (pc := 49) (v := 10) F dX7_look_49 (by decide) ?_
  refine z_isub (pc := 51) F dX7_look_51 ?_
  rw [show ((nI (10 + i)) - 10) = nI i from (by rw [show (10 : Int32) = nI 10 from rfl, pk_sub (by omega)]; congr 1; omega)]
  refine z_perm (ws' := (sw E rs SS) ++ (lqw E r (rs 0) (rt 0) (rr 0) (rq 0) (mrd S (nI nq)) ++ qaw E rq (fun q => some (rk q 0)) SQ ++ tpw E rt ST ++ rdw E rr (rt 0) xp SR ++ wkw E rw (rs 0) SW ++ k6 E rk rp rg rs rw SK SG SP)) (List.Perm.of_eq (by first | (simp only [List.append_assoc]; done) | (simp only [List.append_assoc]; rfl))) ?_
  refine z_callVF (pc := 52) (q0 := 0) (ci := 4) (wr := lqw E r (rs 0) (rt 0) (rr 0) (rq 0) (mrd S (nI nq)) ++ qaw E rq (fun q => some (rk q 0)) SQ ++ tpw E rt ST ++ rdw E rr (rt 0) xp SR ++ wkw E rw (rs 0) SW ++ k6 E rk rp rg rs rw SK SG SP) (rest := []) F (c_X4_itemOf_s l E rs SS m o i hm6 hmo hom hi hi8) 2 ww_LQ_173 (by decide +kernel) rfl ⟨Nat.le_of_ble_eq_true rfl, Nat.le_of_ble_eq_true rfl⟩ ⟨Nat.le_of_ble_eq_true rfl, Nat.le_of_ble_eq_true rfl⟩ rfl rfl rfl rfl (Nat.le_of_ble_eq_true rfl) dX7_look_52 (fun v_ w1_ hp => ?_)
  obtain ⟨rfl, rfl⟩ := hp
  refine z_perm (ws' := sw E rs SS ++ lqw E r (rs 0) (rt 0) (rr 0) (rq 0) (mrd S (nI nq)) ++ qaw E rq (fun q => some (rk q 0)) SQ ++ tpw E rt ST ++ rdw E rr (rt 0) xp SR ++ wkw E rw (rs 0) SW ++ k6 E rk rp rg rs rw SK SG SP) (List.Perm.of_eq (by first | (simp only [List.append_assoc]; done) | (simp only [List.append_assoc]; rfl))) ?_
  show Z X (0) (0) (sw E rs SS ++ lqw E r (rs 0) (rt 0) (rr 0) (rq 0) (mrd S (nI nq)) ++ qaw E rq (fun q => some (rk q 0)) SQ ++ tpw E rt ST ++ rdw E rr (rt 0) xp SR ++ wkw E rw (rs 0) SW ++ k6 E rk rp rg rs rw SK SG SP) [(0, .ref (r 0)), (1, .int (nI o)), (2, .int (nI (10 + i)))] 55 [.long (zb SS 6 (8 * o + i))]
  refine z_blk [sw E rs SS, lqw E r (rs 0) (rt 0) (rr 0) (rq 0) (mrd S (nI nq)), qaw E rq (fun q => some (rk q 0)) SQ, tpw E rt ST, rdw E rr (rt 0) xp SR, wkw E rw (rs 0) SW, k6 E rk rp rg rs rw SK SG SP] [lqw E r (rs 0) (rt 0) (rr 0) (rq 0) (mrd S (nI nq)), qaw E rq (fun q => some (rk q 0)) SQ, sw E rs SS, tpw E rt ST, rdw E rr (rt 0) xp SR, wkw E rw (rs 0) SW, k6 E rk rp rg rs rw SK SG SP] [1, 2, 0, 3, 4, 5, 6] 7 rfl (by decide) rfl ?_
  show Z X (0) (0) (lqw E r (rs 0) (rt 0) (rr 0) (rq 0) (mrd S (nI nq)) ++ qaw E rq (fun q => some (rk q 0)) SQ ++ sw E rs SS ++ tpw E rt ST ++ rdw E rr (rt 0) xp SR ++ wkw E rw (rs 0) SW ++ k6 E rk rp rg rs rw SK SG SP) [(0, .ref (r 0)), (1, .int (nI o)), (2, .int (nI (10 + i)))] 55 [.long (zb SS 6 (8 * o + i))]
  exact z_lret (pc := 55) F hR dX7_look_55 (Nat.le_of_ble_eq_true rfl) (Nat.le_of_ble_eq_true rfl) ⟨rfl, rfl⟩

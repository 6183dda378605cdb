set_option maxHeartbeats 4000000 in
set_option maxRecDepth 100000 in
theorem c_X7_isQuery (l : Launch) (E : zE) (r : Nat → Nat) (rs : Nat → Nat) (rt : Nat → Nat) (rr : Nat → Nat) (rq : Nat → Nat) (rw : Nat → Nat) (rk : Nat → Nat → Nat) (rp : Nat → Nat → Nat) (rg : Nat → Nat → Nat) (S : zS) (SQ : zS) (SS : zS) (ST : zS) (SR : zS) (SW : zS) (SK : Nat → zS) (SG : Nat → zS) (SP : Nat → zS) (xp : Value) (nq : Nat) (q : Int32) : Ct l yX7_isQuery cX7_isQuery 2 (some .boolean) ({ frames := 0, cells := 0, slots := 0, locals := 0 } : Room) E (lqw E r (rs 0) (rt 0) (rr 0) (rq 0) (mrd S (nI nq)) ++ qaw E rq (fun q => some (rk q 0)) SQ ++ sw E rs SS ++ tpw E rt ST ++ rdw E rr (rt 0) xp SR ++ wkw E rw (rs 0) SW ++ k6 E rk rp rg rs rw SK SG SP) [.ref (r 0), .int q] (fun v_ w_ => v_ = some (.int (bI (isQ nq q))) ∧ w_ = lqw E r (rs 0) (rt 0) (rr 0) (rq 0) (mrd S (nI nq)) ++ qaw E rq (fun q => some (rk q 0)) SQ ++ sw E rs SS ++ tpw E rt ST ++ rdw E rr (rt 0) xp SR ++ wkw E rw (rs 0) SW ++ k6 E rk rp rg rs rw SK SG SP) := by
  refine Ct.of (by decide) (Nat.le_of_ble_eq_true rfl) (lv := [(0, .ref (r 0)), (1, .int q)]) rfl ?_
  intro X F hR
  have F : zF X l ({ frames := 0, cells := 0, slots := 0, locals := 0 } : Room) E cX7_isQuery 2 "LiveQueries" := F
  refine z_iload_n (pc := 0) F dX7_isQuery_0 rfl 1 rfl ?_
  refine z_if_lt (pc := 1) (tgt := 16) F dX7_isQuery_1 (by decide) (fun c1 => ?_) (fun c1 => ?_)
  · refine z_iconst (pc := 16) (v := 0) F dX7_isQuery_16 (by decide) ?_
    exact z_zret (pc := 17) F hR rfl dX7_isQuery_17 (Nat.le_of_ble_eq_true rfl) (Nat.le_of_ble_eq_true rfl) ⟨by rw [show isQ nq q = false from decide_eq_false (by first | exact fun h => h.1 c1 | exact fun h => h.2 c9)]; rfl, rfl⟩
  · refine z_iload_n (pc := 4) F dX7_isQuery_4 rfl 1 rfl ?_
    refine z_aload_n (pc := 5) F dX7_isQuery_5 rfl 0 rfl ?_
    refine z_get (pc := 6) (v := .int (nI nq)) F iX7 0 rfl rfl 4 (by decide) tw_310 rfl dX7_isQuery_6 ?_
    refine z_icmp_ge (pc := 9) (tgt := 16) F dX7_isQuery_9 (by decide) (fun c9 => ?_) (fun c9 => ?_)
    · refine z_iconst (pc := 16) (v := 0) F dX7_isQuery_16 (by decide) ?_
      exact z_zret (pc := 17) F hR rfl dX7_isQuery_17 (Nat.le_of_ble_eq_true rfl) (Nat.le_of_ble_eq_true rfl) ⟨by rw [show isQ nq q = false from decide_eq_false (by first | exact fun h => h.1 c1 | exact fun h => h.2 c9)]; rfl, rfl⟩
    · refine z_iconst (pc := 12) (v := 1) F dX7_isQuery_12 (by decide) ?_
      refine z_goto (pc := 13) (tgt := 17) F dX7_isQuery_13 (by decide) ?_
      exact z_zret (pc := 17) F hR rfl dX7_isQuery_17 (Nat.le_of_ble_eq_true rfl) (Nat.le_of_ble_eq_true rfl) ⟨by rw [show isQ nq q = true from decide_eq_true ⟨c1, c9⟩]; rfl, rfl⟩

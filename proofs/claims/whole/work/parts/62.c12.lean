set_option maxHeartbeats 4000000 in
set_option maxRecDepth 100000 in
theorem c_X3_readKind_y (l : Launch) (E : zE) (r : Nat → Nat) (rt : Nat → Nat) (rp : Nat → Nat) (S : zS) (ST : zS) (SP : zS) (tp : Nat) (sx : Nat → Nat) (p : Nat) (G : List zNd) (o1 : Nat → Int32) (l1 : Nat → Int32) (r1 : Nat → Int32) (kd : Int32) (lm : Int32) (f1 : Int32) (f2 : Int32) (f3 : Int32) (f4 : Int32) (ht : tpC ST tp sx) (hp : p ≤ tp) (hK : 48 ≤ sx p ∧ sx p ≤ 51) : Ct l yX3_readKind cX3_readKind 2 (some .boolean) ({ frames := 1, cells := 0, slots := 0, locals := 21 } : Room) E (rdw E r (rt 0) (.ref (rp 0)) (mrd S (nI p)) ++ tpw E rt ST ++ plw E rp (mpq SP (nI G.length) o1 l1 r1 kd lm f1 f2 f3 f4)) [.ref (r 0)] (fun v_ w_ => v_ = some (.int 1) ∧ w_ = rdw E r (rt 0) (.ref (rp 0)) (mrd S (nI (p + 1))) ++ tpw E rt ST ++ plw E rp (mpq SP (nI G.length) o1 l1 r1 (nI (sx p - 48)) lm f1 f2 f3 f4)) := by
  refine Ct.of (by decide) (Nat.le_of_ble_eq_true rfl) (lv := [(0, .ref (r 0))]) rfl ?_
  intro X F hR
  have F : zF X l ({ frames := 1, cells := 0, slots := 0, locals := 21 } : Room) E cX3_readKind 2 "LiveQueries$Reader" := F
  have htp := ht.2.1
  have hsx := ht.2.2.2.2
  have h0 := ht.2.2.2.1
  have hsp := hsx p
  refine z_aload_n (pc := 0) F dX3_readKind_0 rfl 0 rfl ?_
  refine z_callVW (pc := 1) (q0 := 0) (ci := 3) (rest := []) F (c_X3_peek l E r rt rp S ST (mpq SP (nI G.length) o1 l1 r1 kd lm f1 f2 f3 f4) tp sx p ht hp) 0 ww_Reader_51 (by decide +kernel) rfl ⟨Nat.le_of_ble_eq_true rfl, Nat.le_of_ble_eq_true rfl⟩ ⟨Nat.le_of_ble_eq_true rfl, Nat.le_of_ble_eq_true rfl⟩ rfl rfl rfl rfl (Nat.le_of_ble_eq_true rfl) dX3_readKind_1 (fun v_ w1_ hp => ?_)
  obtain ⟨rfl, rfl⟩ := hp
  show Z X (0) (0) (rdw E r (rt 0) (.ref (rp 0)) (mrd S (nI p)) ++ tpw E rt ST ++ plw E rp (mpq SP (nI G.length) o1 l1 r1 kd lm f1 f2 f3 f4)) [(0, .ref (r 0))] 4 [.int (nI (sx p))]
  refine z_istore_n (pc := 4) (lv' := [(0, .ref (r 0)), (1, .int (nI (sx p)))]) F dX3_readKind_4 rfl (by decide) [1, 0] rfl ?_
  refine z_iload_n (pc := 5) F dX3_readKind_5 rfl 1 rfl ?_
  refine z_bipush (pc := 6) (v := 48) F dX3_readKind_6 (by decide) ?_
  refine z_icmp_lt (pc := 8) (tgt := 17) F dX3_readKind_8 (by decide) (fun c8 => absurd c8 (fun h => absurd ((nI_ltI (b := 48) (by omega) (by decide)).mp h) (by omega))) (fun c8 => ?_)
  refine z_iload_n (pc := 11) F dX3_readKind_11 rfl 1 rfl ?_
  refine z_bipush (pc := 12) (v := 52) F dX3_readKind_12 (by decide) ?_
  refine z_icmp_lt (pc := 14) (tgt := 19) F dX3_readKind_14 (by decide) (fun c14 => ?_) (fun c14 => absurd (nI_lt (b := 52) (by omega) (by decide)) c14)
  refine z_aload_n (pc := 19) F dX3_readKind_19 rfl 0 rfl ?_
  refine z_get (pc := 20) (v := .ref (rp 0)) F iX3 0 rfl rfl 1 (by decide) tw_148 rfl dX3_readKind_20 ?_
  refine z_iload_n (pc := 23) F dX3_readKind_23 rfl 1 rfl ?_
  refine z_bipush (pc := 24) (v := 48) F dX3_readKind_24 (by decide) ?_
  refine z_isub (pc := 26) F dX3_readKind_26 ?_
  rw [show ((nI (sx p)) - 48) = nI (sx p - 48) from (pk_sub (b := 48) hK.1)]
  refine z_putN (pc := 27) (ws' := rdw E r (rt 0) (.ref (rp 0)) (mrd S (nI p)) ++ tpw E rt ST ++ plw E rp (mpq SP (nI G.length) o1 l1 r1 (nI (sx p - 48)) lm f1 f2 f3 f4)) F iX2 tyX2 tyX2_ok nmX2 3 rfl rfl 4 (by decide) nw_201 rfl rfl rfl (Nat.le_of_ble_eq_true rfl) dX3_readKind_27 rfl ?_
  refine z_aload_n (pc := 30) F dX3_readKind_30 rfl 0 rfl ?_
  refine z_dup (pc := 31) F dX3_readKind_31 rfl ?_
  refine z_get (pc := 32) (v := .int (nI p)) F iX3 0 rfl rfl 2 (by decide) tw_149 rfl dX3_readKind_32 ?_
  refine z_iconst (pc := 35) (v := 1) F dX3_readKind_35 (by decide) ?_
  refine z_iadd (pc := 36) F dX3_readKind_36 ?_
  rw [show ((nI p) + 1) = nI (p + 1) from (nI_1 _)]
  refine z_put (pc := 37) (ws' := rdw E r (rt 0) (.ref (rp 0)) (mrd S (nI (p + 1))) ++ tpw E rt ST ++ plw E rp (mpq SP (nI G.length) o1 l1 r1 (nI (sx p - 48)) lm f1 f2 f3 f4)) F iX3 tyX3 tyX3_ok nmX3 0 rfl rfl 2 (by decide) tw_149 rfl rfl rfl (Nat.le_of_ble_eq_true rfl) dX3_readKind_37 rfl ?_
  refine z_iconst (pc := 40) (v := 1) F dX3_readKind_40 (by decide) ?_
  exact z_zret (pc := 41) F hR rfl dX3_readKind_41 (Nat.le_of_ble_eq_true rfl) (Nat.le_of_ble_eq_true rfl) ⟨rfl, rfl⟩
set_option maxHeartbeats 4000000 in
set_option maxRecDepth 100000 in
theorem c_X3_readKind_n (l : Launch) (E : zE) (r : Nat → Nat) (rt : Nat → Nat) (rp : Nat → Nat) (S : zS) (ST : zS) (SP : zS) (tp : Nat) (sx : Nat → Nat) (p : Nat) (G : List zNd) (o1 : Nat → Int32) (l1 : Nat → Int32) (r1 : Nat → Int32) (kd : Int32) (lm : Int32) (f1 : Int32) (f2 : Int32) (f3 : Int32) (f4 : Int32) (ht : tpC ST tp sx) (hp : p ≤ tp) (hK : ¬ (48 ≤ sx p ∧ sx p ≤ 51)) : Ct l yX3_readKind cX3_readKind 2 (some .boolean) ({ frames := 1, cells := 0, slots := 0, locals := 21 } : Room) E (rdw E r (rt 0) (.ref (rp 0)) (mrd S (nI p)) ++ tpw E rt ST ++ plw E rp (mpq SP (nI G.length) o1 l1 r1 kd lm f1 f2 f3 f4)) [.ref (r 0)] (fun v_ w_ => v_ = some (.int 0) ∧ w_ = rdw E r (rt 0) (.ref (rp 0)) (mrd S (nI p)) ++ tpw E rt ST ++ plw E rp (mpq SP (nI G.length) o1 l1 r1 kd lm f1 f2 f3 f4)) := by
  refine Ct.of (by decide) (Nat.le_of_ble_eq_true rfl) (lv := [(0, .ref (r 0))]) rfl ?_
  intro X F hR
  have F : zF X l ({ frames := 1, cells := 0, slots := 0, locals := 21 } : Room) E cX3_readKind 2 "LiveQueries$Reader" := F
  have htp := ht.2.1
  have hsx := ht.2.2.2.2
  have h0 := ht.2.2.2.1
  have hsp := hsx p
  refine z_aload_n (pc := 0) F dX3_readKind_0 rfl 0 rfl ?_
  refine z_callVW (pc := 1) (q0 := 0) (ci := 3) (rest := []) F (c_X3_peek l E r rt rp S ST (mpq SP (nI G.length) o1 l1 r1 kd lm f1 f2 f3 f4) tp sx p ht hp) 0 ww_Reader_51 (by decide +kernel) rfl ⟨Nat.le_of_ble_eq_true rfl, Nat.le_of_ble_eq_true rfl⟩ ⟨Nat.le_of_ble_eq_true rfl, Nat.le_of_ble_eq_true rfl⟩ rfl rfl rfl rfl (Nat.le_of_ble_eq_true rfl) dX3_readKind_1 (fun v_ w1_ hp => ?_)
  obtain ⟨rfl, rfl⟩ := hp
  show Z X (0) (0) (rdw E r (rt 0) (.ref (rp 0)) (mrd S (nI p)) ++ tpw E rt ST ++ plw E rp (mpq SP (nI G.length) o1 l1 r1 kd lm f1 f2 f3 f4)) [(0, .ref (r 0))] 4 [.int (nI (sx p))]
  refine z_istore_n (pc := 4) (lv' := [(0, .ref (r 0)), (1, .int (nI (sx p)))]) F dX3_readKind_4 rfl (by decide) [1, 0] rfl ?_
  refine z_iload_n (pc := 5) F dX3_readKind_5 rfl 1 rfl ?_
  refine z_bipush (pc := 6) (v := 48) F dX3_readKind_6 (by decide) ?_
  refine z_icmp_lt (pc := 8) (tgt := 17) F dX3_readKind_8 (by decide) (fun c8 => ?_) (fun c8 => ?_)
  · refine z_iconst (pc := 17) (v := 0) F dX3_readKind_17 (by decide) ?_
    exact z_zret (pc := 18) F hR rfl dX3_readKind_18 (Nat.le_of_ble_eq_true rfl) (Nat.le_of_ble_eq_true rfl) ⟨rfl, rfl⟩
  · have k8 : 48 ≤ sx p := by
        rcases Nat.lt_or_ge (sx p) 48 with q | q
        · exact absurd (nI_lt (b := 48) q (by decide)) c8
        · exact q
    refine z_iload_n (pc := 11) F dX3_readKind_11 rfl 1 rfl ?_
    refine z_bipush (pc := 12) (v := 52) F dX3_readKind_12 (by decide) ?_
    refine z_icmp_lt (pc := 14) (tgt := 19) F dX3_readKind_14 (by decide) (fun c14 => ?_) (fun c14 => ?_)
    · exact absurd ⟨k8, by have := (nI_ltI (b := 52) (by omega) (by decide)).mp c14; omega⟩ hK
    · refine z_iconst (pc := 17) (v := 0) F dX3_readKind_17 (by decide) ?_
      exact z_zret (pc := 18) F hR rfl dX3_readKind_18 (Nat.le_of_ble_eq_true rfl) (Nat.le_of_ble_eq_true rfl) ⟨rfl, rfl⟩
set_option maxHeartbeats 4000000 in
set_option maxRecDepth 100000 in
theorem c_X3_readFilter (l : Launch) (E : zE) (r : Nat → Nat) (rt : Nat → Nat) (rp : Nat → Nat) (S : zS) (ST : zS) (SP : zS) (tp : Nat) (sx : Nat → Nat) (p : Nat) (G : List zNd) (o1 : Nat → Int32) (l1 : Nat → Int32) (r1 : Nat → Int32) (kd : Int32) (lm : Int32) (f2 : Int32) (f3 : Int32) (f4 : Int32) (Rf : zRs) (ht : tpC ST tp sx) (hp : p ≤ tp) (hN : G.length ≤ p) (hho : hoN G o1 l1 r1) (hO : optP sx 1000 59 0 p = some Rf) : Ct l yX3_readFilter cX3_readFilter 1 (some .boolean) ({ frames := 2005, cells := 0, slots := 0, locals := 60130 } : Room) E (rdw E r (rt 0) (.ref (rp 0)) (mrd S (nI p)) ++ tpw E rt ST ++ plw E rp (mpq SP (nI G.length) o1 l1 r1 kd lm (-1) f2 f3 f4)) [.ref (r 0)] (fun v_ w_ => ∃ b : Bool, ∃ G' : List zNd, ∃ o' : Nat → Int32, ∃ l' : Nat → Int32, ∃ r' : Nat → Int32, ∃ f' : Int32, v_ = some (.int (bI b)) ∧ w_ = rdw E r (rt 0) (.ref (rp 0)) (mrd S (nI Rf.2.1)) ++ tpw E rt ST ++ plw E rp (mpq SP (nI G'.length) o' l' r' kd lm f' f2 f3 f4) ∧ (hoN G' o' l' r') ∧ (oFin sx G p Rf b G' f')) := by
  refine Ct.of (by decide) (Nat.le_of_ble_eq_true rfl) (lv := [(0, .ref (r 0))]) rfl ?_
  intro X F hR
  have F : zF X l ({ frames := 2005, cells := 0, slots := 0, locals := 60130 } : Room) E cX3_readFilter 1 "LiveQueries$Reader" := F
  have htp := ht.2.1
  have hsx := ht.2.2.2.2
  have h0 := ht.2.2.2.1
  refine z_aload_n (pc := 0) F dX3_readFilter_0 rfl 0 rfl ?_
  refine z_callVW (pc := 1) (q0 := 0) (ci := 3) (rest := []) F (c_X3_peek l E r rt rp S ST (mpq SP (nI G.length) o1 l1 r1 kd lm (-1) f2 f3 f4) tp sx p ht hp) 0 ww_Reader_51 (by decide +kernel) rfl ⟨Nat.le_of_ble_eq_true rfl, Nat.le_of_ble_eq_true rfl⟩ ⟨Nat.le_of_ble_eq_true rfl, Nat.le_of_ble_eq_true rfl⟩ rfl rfl rfl rfl (Nat.le_of_ble_eq_true rfl) dX3_readFilter_1 (fun v_ w1_ hp => ?_)
  obtain ⟨rfl, rfl⟩ := hp
  show Z X (0) (0) (rdw E r (rt 0) (.ref (rp 0)) (mrd S (nI p)) ++ tpw E rt ST ++ plw E rp (mpq SP (nI G.length) o1 l1 r1 kd lm (-1) f2 f3 f4)) [(0, .ref (r 0))] 4 [.int (nI (sx p))]
  refine z_bipush (pc := 4) (v := 59) F dX3_readFilter_4 (by decide) ?_
  refine z_icmp_ne (pc := 6) (tgt := 11) F dX3_readFilter_6 (by decide) (fun c6 => ?_) (fun c6 => ?_)
  · have k6 : ¬ sx p = 59 := fun h => c6 (by rw [h]; rfl)
    rw [optP, if_neg k6] at hO
    obtain ⟨b3, p3, c3⟩ := Rf
    refine z_aload_n (pc := 11) F dX3_readFilter_11 rfl 0 rfl ?_
    refine z_get (pc := 12) (v := .ref (rp 0)) F iX3 0 rfl rfl 1 (by decide) tw_148 rfl dX3_readFilter_12 ?_
    refine z_aload_n (pc := 15) F dX3_readFilter_15 rfl 0 rfl ?_
    refine z_iconst (pc := 16) (v := 0) F dX3_readFilter_16 (by decide) ?_
    cases b3
    · have b3 : p ≤ p3 ∧ (p ≤ tp → p3 ≤ tp) := by have q_ := ps_b h0 _ _ _ _ _ (by decide) hO; exact ⟨q_.1, q_.2.1⟩
      refine z_callVW (pc := 17) (q0 := 0) (ci := 3) (rest := [.ref (rp 0)]) F (cC_n ((c_all l E r rt rp S ST (zq6 SP kd lm (-1) f2 f3 f4) tp sx ht 1000).1) hO hp hN (by decide) hho) 1 ww_Reader_67 (by decide +kernel) rfl ⟨Nat.le_of_ble_eq_true rfl, Nat.le_of_ble_eq_true rfl⟩ ⟨Nat.le_of_ble_eq_true rfl, Nat.le_of_ble_eq_true rfl⟩ rfl rfl rfl rfl (Nat.le_of_ble_eq_true rfl) dX3_readFilter_17 (fun v_ w1_ hp => ?_)
      obtain ⟨v3, G3, o3, l3, r3, rfl, rfl, hho3, hln3, hv3⟩ := hp
      show Z X (0) (0) (rdw E r (rt 0) (.ref (rp 0)) (mrd S (nI p3)) ++ tpw E rt ST ++ plw E rp (mpq SP (nI G3.length) o3 l3 r3 kd lm (-1) f2 f3 f4)) [(0, .ref (r 0))] 20 [.int v3, .ref (rp 0)]
      refine z_putN (pc := 20) (ws' := rdw E r (rt 0) (.ref (rp 0)) (mrd S (nI p3)) ++ tpw E rt ST ++ plw E rp (mpq SP (nI G3.length) o3 l3 r3 kd lm v3 f2 f3 f4)) F iX2 tyX2 tyX2_ok nmX2 3 rfl rfl 6 (by decide) nw_207 rfl rfl rfl (Nat.le_of_ble_eq_true rfl) dX3_readFilter_20 rfl ?_
      rcases hv3 with hv3 | hv3
      · subst hv3
        refine z_aload_n (pc := 23) F dX3_readFilter_23 rfl 0 rfl ?_
        refine z_get (pc := 24) (v := .ref (rp 0)) F iX3 0 rfl rfl 1 (by decide) tw_148 rfl dX3_readFilter_24 ?_
        refine z_getN (pc := 27) (v := .int (-1)) F iX2 3 rfl rfl 6 (by decide) nw_207 rfl dX3_readFilter_27 ?_
        refine z_iconst (pc := 30) (v := (-1)) F dX3_readFilter_30 (by decide) ?_
        refine z_icmp_eq (pc := 31) (tgt := 38) F dX3_readFilter_31 (by decide) (fun _ => ?_) (fun h => absurd h (by decide))
        refine z_iconst (pc := 38) (v := 0) F dX3_readFilter_38 (by decide) ?_
        exact z_zret (pc := 39) F hR rfl dX3_readFilter_39 (Nat.le_of_ble_eq_true rfl) (Nat.le_of_ble_eq_true rfl) ⟨false, G3, o3, l3, r3, (-1), rfl, rfl, hho3, hln3, fun h => Bool.noConfusion h, fun _ => Or.inl rfl⟩
      · skip
        refine z_aload_n (pc := 23) F dX3_readFilter_23 rfl 0 rfl ?_
        refine z_get (pc := 24) (v := .ref (rp 0)) F iX3 0 rfl rfl 1 (by decide) tw_148 rfl dX3_readFilter_24 ?_
        refine z_getN (pc := 27) (v := .int v3) F iX2 3 rfl rfl 6 (by decide) nw_207 rfl dX3_readFilter_27 ?_
        refine z_iconst (pc := 30) (v := (-1)) F dX3_readFilter_30 (by decide) ?_
        refine z_icmp_eq (pc := 31) (tgt := 38) F dX3_readFilter_31 (by decide) (fun c31 => absurd c31 hv3.1) (fun c31 => ?_)
        refine z_iconst (pc := 34) (v := 1) F dX3_readFilter_34 (by decide) ?_
        refine z_goto (pc := 35) (tgt := 39) F dX3_readFilter_35 (by decide) ?_
        exact z_zret (pc := 39) F hR rfl dX3_readFilter_39 (Nat.le_of_ble_eq_true rfl) (Nat.le_of_ble_eq_true rfl) ⟨true, G3, o3, l3, r3, v3, rfl, rfl, hho3, hln3, fun h => Bool.noConfusion h, fun _ => Or.inr ⟨rfl, hv3.2⟩⟩
    · have b3 : p ≤ p3 ∧ (p ≤ tp → p3 ≤ tp) := by have q_ := ps_b h0 _ _ _ _ _ (by decide) hO; exact ⟨q_.1, q_.2.1⟩
      refine z_callVW (pc := 17) (q0 := 0) (ci := 3) (rest := [.ref (rp 0)]) F (cC_y ((c_all l E r rt rp S ST (zq6 SP kd lm (-1) f2 f3 f4) tp sx ht 1000).1) hO hp hN (by decide) hho) 1 ww_Reader_67 (by decide +kernel) rfl ⟨Nat.le_of_ble_eq_true rfl, Nat.le_of_ble_eq_true rfl⟩ ⟨Nat.le_of_ble_eq_true rfl, Nat.le_of_ble_eq_true rfl⟩ rfl rfl rfl rfl (Nat.le_of_ble_eq_true rfl) dX3_readFilter_17 (fun v_ w1_ hp => ?_)
      obtain ⟨j3, G3, o3, l3, r3, rfl, rfl, hho3, hln3, hj3, hB3⟩ := hp
      show Z X (0) (0) (rdw E r (rt 0) (.ref (rp 0)) (mrd S (nI p3)) ++ tpw E rt ST ++ plw E rp (mpq SP (nI G3.length) o3 l3 r3 kd lm (-1) f2 f3 f4)) [(0, .ref (r 0))] 20 [.int (nI j3), .ref (rp 0)]
      refine z_putN (pc := 20) (ws' := rdw E r (rt 0) (.ref (rp 0)) (mrd S (nI p3)) ++ tpw E rt ST ++ plw E rp (mpq SP (nI G3.length) o3 l3 r3 kd lm (nI j3) f2 f3 f4)) F iX2 tyX2 tyX2_ok nmX2 3 rfl rfl 6 (by decide) nw_207 rfl rfl rfl (Nat.le_of_ble_eq_true rfl) dX3_readFilter_20 rfl ?_
      refine z_aload_n (pc := 23) F dX3_readFilter_23 rfl 0 rfl ?_
      refine z_get (pc := 24) (v := .ref (rp 0)) F iX3 0 rfl rfl 1 (by decide) tw_148 rfl dX3_readFilter_24 ?_
      refine z_getN (pc := 27) (v := .int (nI j3)) F iX2 3 rfl rfl 6 (by decide) nw_207 rfl dX3_readFilter_27 ?_
      refine z_iconst (pc := 30) (v := (-1)) F dX3_readFilter_30 (by decide) ?_
      refine z_icmp_eq (pc := 31) (tgt := 38) F dX3_readFilter_31 (by decide) (fun c31 => absurd c31 (nI_nm (by omega))) (fun c31 => ?_)
      refine z_iconst (pc := 34) (v := 1) F dX3_readFilter_34 (by decide) ?_
      refine z_goto (pc := 35) (tgt := 39) F dX3_readFilter_35 (by decide) ?_
      exact z_zret (pc := 39) F hR rfl dX3_readFilter_39 (Nat.le_of_ble_eq_true rfl) (Nat.le_of_ble_eq_true rfl) ⟨true, G3, o3, l3, r3, nI j3, rfl, rfl, hho3, hln3, fun _ => ⟨rfl, Or.inr ⟨j3, rfl, hj3, hB3⟩⟩, fun h => Bool.noConfusion h⟩
  · have k6 : sx p = 59 := nIe (b := 59) (by have := hsx (p); omega) (by decide) c6
    refine z_iconst (pc := 9) (v := 1) F dX3_readFilter_9 (by decide) ?_
    exact z_zret (pc := 10) F hR rfl dX3_readFilter_10 (Nat.le_of_ble_eq_true rfl) (Nat.le_of_ble_eq_true rfl) ⟨true, G, o1, l1, r1, (-1), rfl, by rw [show Rf = (true, p, []) from by rw [optP, if_pos k6] at hO; cases hO; rfl], hho, by rw [show Rf = (true, p, []) from by rw [optP, if_pos k6] at hO; cases hO; rfl]; exact ⟨Nat.le_refl _, fun _ => ⟨rfl, Or.inl ⟨rfl, rfl, rfl⟩⟩, fun h => Bool.noConfusion h⟩⟩
set_option maxHeartbeats 4000000 in
set_option maxRecDepth 100000 in
theorem c_X3_readSort (l : Launch) (E : zE) (r : Nat → Nat) (rt : Nat → Nat) (rp : Nat → Nat) (S : zS) (ST : zS) (SP : zS) (tp : Nat) (sx : Nat → Nat) (p : Nat) (G : List zNd) (o1 : Nat → Int32) (l1 : Nat → Int32) (r1 : Nat → Int32) (kd : Int32) (lm : Int32) (f1 : Int32) (f3 : Int32) (f4 : Int32) (Rf : zRs) (ht : tpC ST tp sx) (hp : p ≤ tp) (hN : G.length ≤ p) (hho : hoN G o1 l1 r1) (hO : optP sx 1000 59 5 p = some Rf) : Ct l yX3_readSort cX3_readSort 1 (some .boolean) ({ frames := 2005, cells := 0, slots := 0, locals := 60130 } : Room) E (rdw E r (rt 0) (.ref (rp 0)) (mrd S (nI p)) ++ tpw E rt ST ++ plw E rp (mpq SP (nI G.length) o1 l1 r1 kd lm f1 (-1) f3 f4)) [.ref (r 0)] (fun v_ w_ => ∃ b : Bool, ∃ G' : List zNd, ∃ o' : Nat → Int32, ∃ l' : Nat → Int32, ∃ r' : Nat → Int32, ∃ f' : Int32, v_ = some (.int (bI b)) ∧ w_ = rdw E r (rt 0) (.ref (rp 0)) (mrd S (nI Rf.2.1)) ++ tpw E rt ST ++ plw E rp (mpq SP (nI G'.length) o' l' r' kd lm f1 f' f3 f4) ∧ (hoN G' o' l' r') ∧ (oFin sx G p Rf b G' f')) := by
  refine Ct.of (by decide) (Nat.le_of_ble_eq_true rfl) (lv := [(0, .ref (r 0))]) rfl ?_
  intro X F hR
  have F : zF X l ({ frames := 2005, cells := 0, slots := 0, locals := 60130 } : Room) E cX3_readSort 1 "LiveQueries$Reader" := F
  have htp := ht.2.1
  have hsx := ht.2.2.2.2
  have h0 := ht.2.2.2.1
  refine z_aload_n (pc := 0) F dX3_readSort_0 rfl 0 rfl ?_
  refine z_callVW (pc := 1) (q0 := 0) (ci := 3) (rest := []) F (c_X3_peek l E r rt rp S ST (mpq SP (nI G.length) o1 l1 r1 kd lm f1 (-1) f3 f4) tp sx p ht hp) 0 ww_Reader_51 (by decide +kernel) rfl ⟨Nat.le_of_ble_eq_true rfl, Nat.le_of_ble_eq_true rfl⟩ ⟨Nat.le_of_ble_eq_true rfl, Nat.le_of_ble_eq_true rfl⟩ rfl rfl rfl rfl (Nat.le_of_ble_eq_true rfl) dX3_readSort_1 (fun v_ w1_ hp => ?_)
  obtain ⟨rfl, rfl⟩ := hp
  show Z X (0) (0) (rdw E r (rt 0) (.ref (rp 0)) (mrd S (nI p)) ++ tpw E rt ST ++ plw E rp (mpq SP (nI G.length) o1 l1 r1 kd lm f1 (-1) f3 f4)) [(0, .ref (r 0))] 4 [.int (nI (sx p))]
  refine z_bipush (pc := 4) (v := 59) F dX3_readSort_4 (by decide) ?_
  refine z_icmp_ne (pc := 6) (tgt := 11) F dX3_readSort_6 (by decide) (fun c6 => ?_) (fun c6 => ?_)
  · have k6 : ¬ sx p = 59 := fun h => c6 (by rw [h]; rfl)
    rw [optP, if_neg k6] at hO
    obtain ⟨b3, p3, c3⟩ := Rf
    refine z_aload_n (pc := 11) F dX3_readSort_11 rfl 0 rfl ?_
    refine z_get (pc := 12) (v := .ref (rp 0)) F iX3 0 rfl rfl 1 (by decide) tw_148 rfl dX3_readSort_12 ?_
    refine z_aload_n (pc := 15) F dX3_readSort_15 rfl 0 rfl ?_
    refine z_iconst (pc := 16) (v := 0) F dX3_readSort_16 (by decide) ?_
    cases b3
    · have b3 : p ≤ p3 ∧ (p ≤ tp → p3 ≤ tp) := by have q_ := ps_b h0 _ _ _ _ _ (by decide) hO; exact ⟨q_.1, q_.2.1⟩
      refine z_callVW (pc := 17) (q0 := 0) (ci := 3) (rest := [.ref (rp 0)]) F (cC_n ((c_all l E r rt rp S ST (zq6 SP kd lm f1 (-1) f3 f4) tp sx ht 1000).2.2.2.1) hO hp hN (by decide) hho) 1 ww_Reader_74 (by decide +kernel) rfl ⟨Nat.le_of_ble_eq_true rfl, Nat.le_of_ble_eq_true rfl⟩ ⟨Nat.le_of_ble_eq_true rfl, Nat.le_of_ble_eq_true rfl⟩ rfl rfl rfl rfl (Nat.le_of_ble_eq_true rfl) dX3_readSort_17 (fun v_ w1_ hp => ?_)
      obtain ⟨v3, G3, o3, l3, r3, rfl, rfl, hho3, hln3, hv3⟩ := hp
      show Z X (0) (0) (rdw E r (rt 0) (.ref (rp 0)) (mrd S (nI p3)) ++ tpw E rt ST ++ plw E rp (mpq SP (nI G3.length) o3 l3 r3 kd lm f1 (-1) f3 f4)) [(0, .ref (r 0))] 20 [.int v3, .ref (rp 0)]
      refine z_putN (pc := 20) (ws' := rdw E r (rt 0) (.ref (rp 0)) (mrd S (nI p3)) ++ tpw E rt ST ++ plw E rp (mpq SP (nI G3.length) o3 l3 r3 kd lm f1 v3 f3 f4)) F iX2 tyX2 tyX2_ok nmX2 3 rfl rfl 7 (by decide) nw_210 rfl rfl rfl (Nat.le_of_ble_eq_true rfl) dX3_readSort_20 rfl ?_
      rcases hv3 with hv3 | hv3
      · subst hv3
        refine z_aload_n (pc := 23) F dX3_readSort_23 rfl 0 rfl ?_
        refine z_get (pc := 24) (v := .ref (rp 0)) F iX3 0 rfl rfl 1 (by decide) tw_148 rfl dX3_readSort_24 ?_
        refine z_getN (pc := 27) (v := .int (-1)) F iX2 3 rfl rfl 7 (by decide) nw_210 rfl dX3_readSort_27 ?_
        refine z_iconst (pc := 30) (v := (-1)) F dX3_readSort_30 (by decide) ?_
        refine z_icmp_eq (pc := 31) (tgt := 38) F dX3_readSort_31 (by decide) (fun _ => ?_) (fun h => absurd h (by decide))
        refine z_iconst (pc := 38) (v := 0) F dX3_readSort_38 (by decide) ?_
        exact z_zret (pc := 39) F hR rfl dX3_readSort_39 (Nat.le_of_ble_eq_true rfl) (Nat.le_of_ble_eq_true rfl) ⟨false, G3, o3, l3, r3, (-1), rfl, rfl, hho3, hln3, fun h => Bool.noConfusion h, fun _ => Or.inl rfl⟩
      · skip
        refine z_aload_n (pc := 23) F dX3_readSort_23 rfl 0 rfl ?_
        refine z_get (pc := 24) (v := .ref (rp 0)) F iX3 0 rfl rfl 1 (by decide) tw_148 rfl dX3_readSort_24 ?_
        refine z_getN (pc := 27) (v := .int v3) F iX2 3 rfl rfl 7 (by decide) nw_210 rfl dX3_readSort_27 ?_
        refine z_iconst (pc := 30) (v := (-1)) F dX3_readSort_30 (by decide) ?_
        refine z_icmp_eq (pc := 31) (tgt := 38) F dX3_readSort_31 (by decide) (fun c31 => absurd c31 hv3.1) (fun c31 => ?_)
        refine z_iconst (pc := 34) (v := 1) F dX3_readSort_34 (by decide) ?_
        refine z_goto (pc := 35) (tgt := 39) F dX3_readSort_35 (by decide) ?_
        exact z_zret (pc := 39) F hR rfl dX3_readSort_39 (Nat.le_of_ble_eq_true rfl) (Nat.le_of_ble_eq_true rfl) ⟨true, G3, o3, l3, r3, v3, rfl, rfl, hho3, hln3, fun h => Bool.noConfusion h, fun _ => Or.inr ⟨rfl, hv3.2⟩⟩
    · have b3 : p ≤ p3 ∧ (p ≤ tp → p3 ≤ tp) := by have q_ := ps_b h0 _ _ _ _ _ (by decide) hO; exact ⟨q_.1, q_.2.1⟩
      refine z_callVW (pc := 17) (q0 := 0) (ci := 3) (rest := [.ref (rp 0)]) F (cC_y ((c_all l E r rt rp S ST (zq6 SP kd lm f1 (-1) f3 f4) tp sx ht 1000).2.2.2.1) hO hp hN (by decide) hho) 1 ww_Reader_74 (by decide +kernel) rfl ⟨Nat.le_of_ble_eq_true rfl, Nat.le_of_ble_eq_true rfl⟩ ⟨Nat.le_of_ble_eq_true rfl, Nat.le_of_ble_eq_true rfl⟩ rfl rfl rfl rfl (Nat.le_of_ble_eq_true rfl) dX3_readSort_17 (fun v_ w1_ hp => ?_)
      obtain ⟨j3, G3, o3, l3, r3, rfl, rfl, hho3, hln3, hj3, hB3⟩ := hp
      show Z X (0) (0) (rdw E r (rt 0) (.ref (rp 0)) (mrd S (nI p3)) ++ tpw E rt ST ++ plw E rp (mpq SP (nI G3.length) o3 l3 r3 kd lm f1 (-1) f3 f4)) [(0, .ref (r 0))] 20 [.int (nI j3), .ref (rp 0)]
      refine z_putN (pc := 20) (ws' := rdw E r (rt 0) (.ref (rp 0)) (mrd S (nI p3)) ++ tpw E rt ST ++ plw E rp (mpq SP (nI G3.length) o3 l3 r3 kd lm f1 (nI j3) f3 f4)) F iX2 tyX2 tyX2_ok nmX2 3 rfl rfl 7 (by decide) nw_210 rfl rfl rfl (Nat.le_of_ble_eq_true rfl) dX3_readSort_20 rfl ?_
      refine z_aload_n (pc := 23) F dX3_readSort_23 rfl 0 rfl ?_
      refine z_get (pc := 24) (v := .ref (rp 0)) F iX3 0 rfl rfl 1 (by decide) tw_148 rfl dX3_readSort_24 ?_
      refine z_getN (pc := 27) (v := .int (nI j3)) F iX2 3 rfl rfl 7 (by decide) nw_210 rfl dX3_readSort_27 ?_
      refine z_iconst (pc := 30) (v := (-1)) F dX3_readSort_30 (by decide) ?_
      refine z_icmp_eq (pc := 31) (tgt := 38) F dX3_readSort_31 (by decide) (fun c31 => absurd c31 (nI_nm (by omega))) (fun c31 => ?_)
      refine z_iconst (pc := 34) (v := 1) F dX3_readSort_34 (by decide) ?_
      refine z_goto (pc := 35) (tgt := 39) F dX3_readSort_35 (by decide) ?_
      exact z_zret (pc := 39) F hR rfl dX3_readSort_39 (Nat.le_of_ble_eq_true rfl) (Nat.le_of_ble_eq_true rfl) ⟨true, G3, o3, l3, r3, nI j3, rfl, rfl, hho3, hln3, fun _ => ⟨rfl, Or.inr ⟨j3, rfl, hj3, hB3⟩⟩, fun h => Bool.noConfusion h⟩
  · have k6 : sx p = 59 := nIe (b := 59) (by have := hsx (p); omega) (by decide) c6
    refine z_iconst (pc := 9) (v := 1) F dX3_readSort_9 (by decide) ?_
    exact z_zret (pc := 10) F hR rfl dX3_readSort_10 (Nat.le_of_ble_eq_true rfl) (Nat.le_of_ble_eq_true rfl) ⟨true, G, o1, l1, r1, (-1), rfl, by rw [show Rf = (true, p, []) from by rw [optP, if_pos k6] at hO; cases hO; rfl], hho, by rw [show Rf = (true, p, []) from by rw [optP, if_pos k6] at hO; cases hO; rfl]; exact ⟨Nat.le_refl _, fun _ => ⟨rfl, Or.inl ⟨rfl, rfl, rfl⟩⟩, fun h => Bool.noConfusion h⟩⟩
set_option maxHeartbeats 4000000 in
set_option maxRecDepth 100000 in
theorem c_X3_readGroup (l : Launch) (E : zE) (r : Nat → Nat) (rt : Nat → Nat) (rp : Nat → Nat) (S : zS) (ST : zS) (SP : zS) (tp : Nat) (sx : Nat → Nat) (p : Nat) (G : List zNd) (o1 : Nat → Int32) (l1 : Nat → Int32) (r1 : Nat → Int32) (kd : Int32) (lm : Int32) (f1 : Int32) (f2 : Int32) (f4 : Int32) (Rf : zRs) (ht : tpC ST tp sx) (hp : p ≤ tp) (hN : G.length ≤ p) (hho : hoN G o1 l1 r1) (hO : optP sx 1000 59 5 p = some Rf) : Ct l yX3_readGroup cX3_readGroup 1 (some .boolean) ({ frames := 2005, cells := 0, slots := 0, locals := 60130 } : Room) E (rdw E r (rt 0) (.ref (rp 0)) (mrd S (nI p)) ++ tpw E rt ST ++ plw E rp (mpq SP (nI G.length) o1 l1 r1 kd lm f1 f2 (-1) f4)) [.ref (r 0)] (fun v_ w_ => ∃ b : Bool, ∃ G' : List zNd, ∃ o' : Nat → Int32, ∃ l' : Nat → Int32, ∃ r' : Nat → Int32, ∃ f' : Int32, v_ = some (.int (bI b)) ∧ w_ = rdw E r (rt 0) (.ref (rp 0)) (mrd S (nI Rf.2.1)) ++ tpw E rt ST ++ plw E rp (mpq SP (nI G'.length) o' l' r' kd lm f1 f2 f' f4) ∧ (hoN G' o' l' r') ∧ (oFin sx G p Rf b G' f')) := by
  refine Ct.of (by decide) (Nat.le_of_ble_eq_true rfl) (lv := [(0, .ref (r 0))]) rfl ?_
  intro X F hR
  have F : zF X l ({ frames := 2005, cells := 0, slots := 0, locals := 60130 } : Room) E cX3_readGroup 1 "LiveQueries$Reader" := F
  have htp := ht.2.1
  have hsx := ht.2.2.2.2
  have h0 := ht.2.2.2.1
  refine z_aload_n (pc := 0) F dX3_readGroup_0 rfl 0 rfl ?_
  refine z_callVW (pc := 1) (q0 := 0) (ci := 3) (rest := []) F (c_X3_peek l E r rt rp S ST (mpq SP (nI G.length) o1 l1 r1 kd lm f1 f2 (-1) f4) tp sx p ht hp) 0 ww_Reader_51 (by decide +kernel) rfl ⟨Nat.le_of_ble_eq_true rfl, Nat.le_of_ble_eq_true rfl⟩ ⟨Nat.le_of_ble_eq_true rfl, Nat.le_of_ble_eq_true rfl⟩ rfl rfl rfl rfl (Nat.le_of_ble_eq_true rfl) dX3_readGroup_1 (fun v_ w1_ hp => ?_)
  obtain ⟨rfl, rfl⟩ := hp
  show Z X (0) (0) (rdw E r (rt 0) (.ref (rp 0)) (mrd S (nI p)) ++ tpw E rt ST ++ plw E rp (mpq SP (nI G.length) o1 l1 r1 kd lm f1 f2 (-1) f4)) [(0, .ref (r 0))] 4 [.int (nI (sx p))]
  refine z_bipush (pc := 4) (v := 59) F dX3_readGroup_4 (by decide) ?_
  refine z_icmp_ne (pc := 6) (tgt := 11) F dX3_readGroup_6 (by decide) (fun c6 => ?_) (fun c6 => ?_)
  · have k6 : ¬ sx p = 59 := fun h => c6 (by rw [h]; rfl)
    rw [optP, if_neg k6] at hO
    obtain ⟨b3, p3, c3⟩ := Rf
    refine z_aload_n (pc := 11) F dX3_readGroup_11 rfl 0 rfl ?_
    refine z_get (pc := 12) (v := .ref (rp 0)) F iX3 0 rfl rfl 1 (by decide) tw_148 rfl dX3_readGroup_12 ?_
    refine z_aload_n (pc := 15) F dX3_readGroup_15 rfl 0 rfl ?_
    refine z_iconst (pc := 16) (v := 0) F dX3_readGroup_16 (by decide) ?_
    cases b3
    · have b3 : p ≤ p3 ∧ (p ≤ tp → p3 ≤ tp) := by have q_ := ps_b h0 _ _ _ _ _ (by decide) hO; exact ⟨q_.1, q_.2.1⟩
      refine z_callVW (pc := 17) (q0 := 0) (ci := 3) (rest := [.ref (rp 0)]) F (cC_n ((c_all l E r rt rp S ST (zq6 SP kd lm f1 f2 (-1) f4) tp sx ht 1000).2.2.2.1) hO hp hN (by decide) hho) 1 ww_Reader_74 (by decide +kernel) rfl ⟨Nat.le_of_ble_eq_true rfl, Nat.le_of_ble_eq_true rfl⟩ ⟨Nat.le_of_ble_eq_true rfl, Nat.le_of_ble_eq_true rfl⟩ rfl rfl rfl rfl (Nat.le_of_ble_eq_true rfl) dX3_readGroup_17 (fun v_ w1_ hp => ?_)
      obtain ⟨v3, G3, o3, l3, r3, rfl, rfl, hho3, hln3, hv3⟩ := hp
      show Z X (0) (0) (rdw E r (rt 0) (.ref (rp 0)) (mrd S (nI p3)) ++ tpw E rt ST ++ plw E rp (mpq SP (nI G3.length) o3 l3 r3 kd lm f1 f2 (-1) f4)) [(0, .ref (r 0))] 20 [.int v3, .ref (rp 0)]
      refine z_putN (pc := 20) (ws' := rdw E r (rt 0) (.ref (rp 0)) (mrd S (nI p3)) ++ tpw E rt ST ++ plw E rp (mpq SP (nI G3.length) o3 l3 r3 kd lm f1 f2 v3 f4)) F iX2 tyX2 tyX2_ok nmX2 3 rfl rfl 8 (by decide) nw_213 rfl rfl rfl (Nat.le_of_ble_eq_true rfl) dX3_readGroup_20 rfl ?_
      rcases hv3 with hv3 | hv3
      · subst hv3
        refine z_aload_n (pc := 23) F dX3_readGroup_23 rfl 0 rfl ?_
        refine z_get (pc := 24) (v := .ref (rp 0)) F iX3 0 rfl rfl 1 (by decide) tw_148 rfl dX3_readGroup_24 ?_
        refine z_getN (pc := 27) (v := .int (-1)) F iX2 3 rfl rfl 8 (by decide) nw_213 rfl dX3_readGroup_27 ?_
        refine z_iconst (pc := 30) (v := (-1)) F dX3_readGroup_30 (by decide) ?_
        refine z_icmp_eq (pc := 31) (tgt := 38) F dX3_readGroup_31 (by decide) (fun _ => ?_) (fun h => absurd h (by decide))
        refine z_iconst (pc := 38) (v := 0) F dX3_readGroup_38 (by decide) ?_
        exact z_zret (pc := 39) F hR rfl dX3_readGroup_39 (Nat.le_of_ble_eq_true rfl) (Nat.le_of_ble_eq_true rfl) ⟨false, G3, o3, l3, r3, (-1), rfl, rfl, hho3, hln3, fun h => Bool.noConfusion h, fun _ => Or.inl rfl⟩
      · skip
        refine z_aload_n (pc := 23) F dX3_readGroup_23 rfl 0 rfl ?_
        refine z_get (pc := 24) (v := .ref (rp 0)) F iX3 0 rfl rfl 1 (by decide) tw_148 rfl dX3_readGroup_24 ?_
        refine z_getN (pc := 27) (v := .int v3) F iX2 3 rfl rfl 8 (by decide) nw_213 rfl dX3_readGroup_27 ?_
        refine z_iconst (pc := 30) (v := (-1)) F dX3_readGroup_30 (by decide) ?_
        refine z_icmp_eq (pc := 31) (tgt := 38) F dX3_readGroup_31 (by decide) (fun c31 => absurd c31 hv3.1) (fun c31 => ?_)
        refine z_iconst (pc := 34) (v := 1) F dX3_readGroup_34 (by decide) ?_
        refine z_goto (pc := 35) (tgt := 39) F dX3_readGroup_35 (by decide) ?_
        exact z_zret (pc := 39) F hR rfl dX3_readGroup_39 (Nat.le_of_ble_eq_true rfl) (Nat.le_of_ble_eq_true rfl) ⟨true, G3, o3, l3, r3, v3, rfl, rfl, hho3, hln3, fun h => Bool.noConfusion h, fun _ => Or.inr ⟨rfl, hv3.2⟩⟩
    · have b3 : p ≤ p3 ∧ (p ≤ tp → p3 ≤ tp) := by have q_ := ps_b h0 _ _ _ _ _ (by decide) hO; exact ⟨q_.1, q_.2.1⟩
      refine z_callVW (pc := 17) (q0 := 0) (ci := 3) (rest := [.ref (rp 0)]) F (cC_y ((c_all l E r rt rp S ST (zq6 SP kd lm f1 f2 (-1) f4) tp sx ht 1000).2.2.2.1) hO hp hN (by decide) hho) 1 ww_Reader_74 (by decide +kernel) rfl ⟨Nat.le_of_ble_eq_true rfl, Nat.le_of_ble_eq_true rfl⟩ ⟨Nat.le_of_ble_eq_true rfl, Nat.le_of_ble_eq_true rfl⟩ rfl rfl rfl rfl (Nat.le_of_ble_eq_true rfl) dX3_readGroup_17 (fun v_ w1_ hp => ?_)
      obtain ⟨j3, G3, o3, l3, r3, rfl, rfl, hho3, hln3, hj3, hB3⟩ := hp
      show Z X (0) (0) (rdw E r (rt 0) (.ref (rp 0)) (mrd S (nI p3)) ++ tpw E rt ST ++ plw E rp (mpq SP (nI G3.length) o3 l3 r3 kd lm f1 f2 (-1) f4)) [(0, .ref (r 0))] 20 [.int (nI j3), .ref (rp 0)]
      refine z_putN (pc := 20) (ws' := rdw E r (rt 0) (.ref (rp 0)) (mrd S (nI p3)) ++ tpw E rt ST ++ plw E rp (mpq SP (nI G3.length) o3 l3 r3 kd lm f1 f2 (nI j3) f4)) F iX2 tyX2 tyX2_ok nmX2 3 rfl rfl 8 (by decide) nw_213 rfl rfl rfl (Nat.le_of_ble_eq_true rfl) dX3_readGroup_20 rfl ?_
      refine z_aload_n (pc := 23) F dX3_readGroup_23 rfl 0 rfl ?_
      refine z_get (pc := 24) (v := .ref (rp 0)) F iX3 0 rfl rfl 1 (by decide) tw_148 rfl dX3_readGroup_24 ?_
      refine z_getN (pc := 27) (v := .int (nI j3)) F iX2 3 rfl rfl 8 (by decide) nw_213 rfl dX3_readGroup_27 ?_
      refine z_iconst (pc := 30) (v := (-1)) F dX3_readGroup_30 (by decide) ?_
      refine z_icmp_eq (pc := 31) (tgt := 38) F dX3_readGroup_31 (by decide) (fun c31 => absurd c31 (nI_nm (by omega))) (fun c31 => ?_)
      refine z_iconst (pc := 34) (v := 1) F dX3_readGroup_34 (by decide) ?_
      refine z_goto (pc := 35) (tgt := 39) F dX3_readGroup_35 (by decide) ?_
      exact z_zret (pc := 39) F hR rfl dX3_readGroup_39 (Nat.le_of_ble_eq_true rfl) (Nat.le_of_ble_eq_true rfl) ⟨true, G3, o3, l3, r3, nI j3, rfl, rfl, hho3, hln3, fun _ => ⟨rfl, Or.inr ⟨j3, rfl, hj3, hB3⟩⟩, fun h => Bool.noConfusion h⟩
  · have k6 : sx p = 59 := nIe (b := 59) (by have := hsx (p); omega) (by decide) c6
    refine z_iconst (pc := 9) (v := 1) F dX3_readGroup_9 (by decide) ?_
    exact z_zret (pc := 10) F hR rfl dX3_readGroup_10 (Nat.le_of_ble_eq_true rfl) (Nat.le_of_ble_eq_true rfl) ⟨true, G, o1, l1, r1, (-1), rfl, by rw [show Rf = (true, p, []) from by rw [optP, if_pos k6] at hO; cases hO; rfl], hho, by rw [show Rf = (true, p, []) from by rw [optP, if_pos k6] at hO; cases hO; rfl]; exact ⟨Nat.le_refl _, fun _ => ⟨rfl, Or.inl ⟨rfl, rfl, rfl⟩⟩, fun h => Bool.noConfusion h⟩⟩
set_option maxHeartbeats 4000000 in
set_option maxRecDepth 100000 in
theorem c_X3_readSum (l : Launch) (E : zE) (r : Nat → Nat) (rt : Nat → Nat) (rp : Nat → Nat) (S : zS) (ST : zS) (SP : zS) (tp : Nat) (sx : Nat → Nat) (p : Nat) (G : List zNd) (o1 : Nat → Int32) (l1 : Nat → Int32) (r1 : Nat → Int32) (kd : Int32) (lm : Int32) (f1 : Int32) (f2 : Int32) (f3 : Int32) (Rf : zRs) (ht : tpC ST tp sx) (hp : p ≤ tp) (hN : G.length ≤ p) (hho : hoN G o1 l1 r1) (hO : optP sx 1000 0 5 p = some Rf) : Ct l yX3_readSum cX3_readSum 1 (some .boolean) ({ frames := 2005, cells := 0, slots := 0, locals := 60130 } : Room) E (rdw E r (rt 0) (.ref (rp 0)) (mrd S (nI p)) ++ tpw E rt ST ++ plw E rp (mpq SP (nI G.length) o1 l1 r1 kd lm f1 f2 f3 (-1))) [.ref (r 0)] (fun v_ w_ => ∃ b : Bool, ∃ G' : List zNd, ∃ o' : Nat → Int32, ∃ l' : Nat → Int32, ∃ r' : Nat → Int32, ∃ f' : Int32, v_ = some (.int (bI b)) ∧ w_ = rdw E r (rt 0) (.ref (rp 0)) (mrd S (nI Rf.2.1)) ++ tpw E rt ST ++ plw E rp (mpq SP (nI G'.length) o' l' r' kd lm f1 f2 f3 f') ∧ (hoN G' o' l' r') ∧ (oFin sx G p Rf b G' f')) := by
  refine Ct.of (by decide) (Nat.le_of_ble_eq_true rfl) (lv := [(0, .ref (r 0))]) rfl ?_
  intro X F hR
  have F : zF X l ({ frames := 2005, cells := 0, slots := 0, locals := 60130 } : Room) E cX3_readSum 1 "LiveQueries$Reader" := F
  have htp := ht.2.1
  have hsx := ht.2.2.2.2
  have h0 := ht.2.2.2.1
  refine z_aload_n (pc := 0) F dX3_readSum_0 rfl 0 rfl ?_
  refine z_callVW (pc := 1) (q0 := 0) (ci := 3) (rest := []) F (c_X3_peek l E r rt rp S ST (mpq SP (nI G.length) o1 l1 r1 kd lm f1 f2 f3 (-1)) tp sx p ht hp) 0 ww_Reader_51 (by decide +kernel) rfl ⟨Nat.le_of_ble_eq_true rfl, Nat.le_of_ble_eq_true rfl⟩ ⟨Nat.le_of_ble_eq_true rfl, Nat.le_of_ble_eq_true rfl⟩ rfl rfl rfl rfl (Nat.le_of_ble_eq_true rfl) dX3_readSum_1 (fun v_ w1_ hp => ?_)
  obtain ⟨rfl, rfl⟩ := hp
  show Z X (0) (0) (rdw E r (rt 0) (.ref (rp 0)) (mrd S (nI p)) ++ tpw E rt ST ++ plw E rp (mpq SP (nI G.length) o1 l1 r1 kd lm f1 f2 f3 (-1))) [(0, .ref (r 0))] 4 [.int (nI (sx p))]
  refine z_if_ne (pc := 4) (tgt := 9) F dX3_readSum_4 (by decide) (fun c4 => ?_) (fun c4 => ?_)
  · have k6 : ¬ sx p = 0 := fun h => c4 (by rw [h]; rfl)
    rw [optP, if_neg k6] at hO
    obtain ⟨b3, p3, c3⟩ := Rf
    refine z_aload_n (pc := 9) F dX3_readSum_9 rfl 0 rfl ?_
    refine z_get (pc := 10) (v := .ref (rp 0)) F iX3 0 rfl rfl 1 (by decide) tw_148 rfl dX3_readSum_10 ?_
    refine z_aload_n (pc := 13) F dX3_readSum_13 rfl 0 rfl ?_
    refine z_iconst (pc := 14) (v := 0) F dX3_readSum_14 (by decide) ?_
    cases b3
    · have b3 : p ≤ p3 ∧ (p ≤ tp → p3 ≤ tp) := by have q_ := ps_b h0 _ _ _ _ _ (by decide) hO; exact ⟨q_.1, q_.2.1⟩
      refine z_callVW (pc := 15) (q0 := 0) (ci := 3) (rest := [.ref (rp 0)]) F (cC_n ((c_all l E r rt rp S ST (zq6 SP kd lm f1 f2 f3 (-1)) tp sx ht 1000).2.2.2.1) hO hp hN (by decide) hho) 1 ww_Reader_74 (by decide +kernel) rfl ⟨Nat.le_of_ble_eq_true rfl, Nat.le_of_ble_eq_true rfl⟩ ⟨Nat.le_of_ble_eq_true rfl, Nat.le_of_ble_eq_true rfl⟩ rfl rfl rfl rfl (Nat.le_of_ble_eq_true rfl) dX3_readSum_15 (fun v_ w1_ hp => ?_)
      obtain ⟨v3, G3, o3, l3, r3, rfl, rfl, hho3, hln3, hv3⟩ := hp
      show Z X (0) (0) (rdw E r (rt 0) (.ref (rp 0)) (mrd S (nI p3)) ++ tpw E rt ST ++ plw E rp (mpq SP (nI G3.length) o3 l3 r3 kd lm f1 f2 f3 (-1))) [(0, .ref (r 0))] 18 [.int v3, .ref (rp 0)]
      refine z_putN (pc := 18) (ws' := rdw E r (rt 0) (.ref (rp 0)) (mrd S (nI p3)) ++ tpw E rt ST ++ plw E rp (mpq SP (nI G3.length) o3 l3 r3 kd lm f1 f2 f3 v3)) F iX2 tyX2 tyX2_ok nmX2 3 rfl rfl 9 (by decide) nw_216 rfl rfl rfl (Nat.le_of_ble_eq_true rfl) dX3_readSum_18 rfl ?_
      rcases hv3 with hv3 | hv3
      · subst hv3
        refine z_aload_n (pc := 21) F dX3_readSum_21 rfl 0 rfl ?_
        refine z_get (pc := 22) (v := .ref (rp 0)) F iX3 0 rfl rfl 1 (by decide) tw_148 rfl dX3_readSum_22 ?_
        refine z_getN (pc := 25) (v := .int (-1)) F iX2 3 rfl rfl 9 (by decide) nw_216 rfl dX3_readSum_25 ?_
        refine z_iconst (pc := 28) (v := (-1)) F dX3_readSum_28 (by decide) ?_
        refine z_icmp_eq (pc := 29) (tgt := 36) F dX3_readSum_29 (by decide) (fun _ => ?_) (fun h => absurd h (by decide))
        refine z_iconst (pc := 36) (v := 0) F dX3_readSum_36 (by decide) ?_
        exact z_zret (pc := 37) F hR rfl dX3_readSum_37 (Nat.le_of_ble_eq_true rfl) (Nat.le_of_ble_eq_true rfl) ⟨false, G3, o3, l3, r3, (-1), rfl, rfl, hho3, hln3, fun h => Bool.noConfusion h, fun _ => Or.inl rfl⟩
      · skip
        refine z_aload_n (pc := 21) F dX3_readSum_21 rfl 0 rfl ?_
        refine z_get (pc := 22) (v := .ref (rp 0)) F iX3 0 rfl rfl 1 (by decide) tw_148 rfl dX3_readSum_22 ?_
        refine z_getN (pc := 25) (v := .int v3) F iX2 3 rfl rfl 9 (by decide) nw_216 rfl dX3_readSum_25 ?_
        refine z_iconst (pc := 28) (v := (-1)) F dX3_readSum_28 (by decide) ?_
        refine z_icmp_eq (pc := 29) (tgt := 36) F dX3_readSum_29 (by decide) (fun c29 => absurd c29 hv3.1) (fun c29 => ?_)
        refine z_iconst (pc := 32) (v := 1) F dX3_readSum_32 (by decide) ?_
        refine z_goto (pc := 33) (tgt := 37) F dX3_readSum_33 (by decide) ?_
        exact z_zret (pc := 37) F hR rfl dX3_readSum_37 (Nat.le_of_ble_eq_true rfl) (Nat.le_of_ble_eq_true rfl) ⟨true, G3, o3, l3, r3, v3, rfl, rfl, hho3, hln3, fun h => Bool.noConfusion h, fun _ => Or.inr ⟨rfl, hv3.2⟩⟩
    · have b3 : p ≤ p3 ∧ (p ≤ tp → p3 ≤ tp) := by have q_ := ps_b h0 _ _ _ _ _ (by decide) hO; exact ⟨q_.1, q_.2.1⟩
      refine z_callVW (pc := 15) (q0 := 0) (ci := 3) (rest := [.ref (rp 0)]) F (cC_y ((c_all l E r rt rp S ST (zq6 SP kd lm f1 f2 f3 (-1)) tp sx ht 1000).2.2.2.1) hO hp hN (by decide) hho) 1 ww_Reader_74 (by decide +kernel) rfl ⟨Nat.le_of_ble_eq_true rfl, Nat.le_of_ble_eq_true rfl⟩ ⟨Nat.le_of_ble_eq_true rfl, Nat.le_of_ble_eq_true rfl⟩ rfl rfl rfl rfl (Nat.le_of_ble_eq_true rfl) dX3_readSum_15 (fun v_ w1_ hp => ?_)
      obtain ⟨j3, G3, o3, l3, r3, rfl, rfl, hho3, hln3, hj3, hB3⟩ := hp
      show Z X (0) (0) (rdw E r (rt 0) (.ref (rp 0)) (mrd S (nI p3)) ++ tpw E rt ST ++ plw E rp (mpq SP (nI G3.length) o3 l3 r3 kd lm f1 f2 f3 (-1))) [(0, .ref (r 0))] 18 [.int (nI j3), .ref (rp 0)]
      refine z_putN (pc := 18) (ws' := rdw E r (rt 0) (.ref (rp 0)) (mrd S (nI p3)) ++ tpw E rt ST ++ plw E rp (mpq SP (nI G3.length) o3 l3 r3 kd lm f1 f2 f3 (nI j3))) F iX2 tyX2 tyX2_ok nmX2 3 rfl rfl 9 (by decide) nw_216 rfl rfl rfl (Nat.le_of_ble_eq_true rfl) dX3_readSum_18 rfl ?_
      refine z_aload_n (pc := 21) F dX3_readSum_21 rfl 0 rfl ?_
      refine z_get (pc := 22) (v := .ref (rp 0)) F iX3 0 rfl rfl 1 (by decide) tw_148 rfl dX3_readSum_22 ?_
      refine z_getN (pc := 25) (v := .int (nI j3)) F iX2 3 rfl rfl 9 (by decide) nw_216 rfl dX3_readSum_25 ?_
      refine z_iconst (pc := 28) (v := (-1)) F dX3_readSum_28 (by decide) ?_
      refine z_icmp_eq (pc := 29) (tgt := 36) F dX3_readSum_29 (by decide) (fun c29 => absurd c29 (nI_nm (by omega))) (fun c29 => ?_)
      refine z_iconst (pc := 32) (v := 1) F dX3_readSum_32 (by decide) ?_
      refine z_goto (pc := 33) (tgt := 37) F dX3_readSum_33 (by decide) ?_
      exact z_zret (pc := 37) F hR rfl dX3_readSum_37 (Nat.le_of_ble_eq_true rfl) (Nat.le_of_ble_eq_true rfl) ⟨true, G3, o3, l3, r3, nI j3, rfl, rfl, hho3, hln3, fun _ => ⟨rfl, Or.inr ⟨j3, rfl, hj3, hB3⟩⟩, fun h => Bool.noConfusion h⟩
  · have k6 : sx p = 0 := nIe (b := 0) (by have := hsx p; omega) (by decide) c4
    refine z_iconst (pc := 7) (v := 1) F dX3_readSum_7 (by decide) ?_
    exact z_zret (pc := 8) F hR rfl dX3_readSum_8 (Nat.le_of_ble_eq_true rfl) (Nat.le_of_ble_eq_true rfl) ⟨true, G, o1, l1, r1, (-1), rfl, by rw [show Rf = (true, p, []) from by rw [optP, if_pos k6] at hO; cases hO; rfl], hho, by rw [show Rf = (true, p, []) from by rw [optP, if_pos k6] at hO; cases hO; rfl]; exact ⟨Nat.le_refl _, fun _ => ⟨rfl, Or.inl ⟨rfl, rfl, rfl⟩⟩, fun h => Bool.noConfusion h⟩⟩
set_option maxHeartbeats 4000000 in
set_option maxRecDepth 100000 in
theorem c_X3_readLimit (l : Launch) (E : zE) (r : Nat → Nat) (rt : Nat → Nat) (rp : Nat → Nat) (S : zS) (ST : zS) (SP : zS) (tp : Nat) (sx : Nat → Nat) (p : Nat) (G : List zNd) (o1 : Nat → Int32) (l1 : Nat → Int32) (r1 : Nat → Int32) (kd : Int32) (lm : Int32) (f1 : Int32) (f2 : Int32) (f3 : Int32) (f4 : Int32) (ht : tpC ST tp sx) (hp : p ≤ tp) : Ct l yX3_readLimit cX3_readLimit 1 (some .boolean) ({ frames := 2, cells := 0, slots := 0, locals := 45 } : Room) E (rdw E r (rt 0) (.ref (rp 0)) (mrd S (nI p)) ++ tpw E rt ST ++ plw E rp (mpq SP (nI G.length) o1 l1 r1 kd lm f1 f2 f3 f4)) [.ref (r 0)] (fun v_ w_ => v_ = some (.int 1) ∧ w_ = rdw E r (rt 0) (.ref (rp 0)) (mrd S (nI (dgs sx 2 p 0).1)) ++ tpw E rt ST ++ plw E rp (mpq SP (nI G.length) o1 l1 r1 kd (nI (dgs sx 2 p 0).2) f1 f2 f3 f4)) := by
  refine Ct.of (by decide) (Nat.le_of_ble_eq_true rfl) (lv := [(0, .ref (r 0))]) rfl ?_
  intro X F hR
  have F : zF X l ({ frames := 2, cells := 0, slots := 0, locals := 45 } : Room) E cX3_readLimit 1 "LiveQueries$Reader" := F
  have htp := ht.2.1
  have hsx := ht.2.2.2.2
  have h0 := ht.2.2.2.1
  refine z_aload_n (pc := 0) F dX3_readLimit_0 rfl 0 rfl ?_
  refine z_get (pc := 1) (v := .ref (rp 0)) F iX3 0 rfl rfl 1 (by decide) tw_148 rfl dX3_readLimit_1 ?_
  refine z_aload_n (pc := 4) F dX3_readLimit_4 rfl 0 rfl ?_
  refine z_iconst (pc := 5) (v := 2) F dX3_readLimit_5 (by decide) ?_
  refine z_callVW (pc := 6) (q0 := 0) (ci := 3) (rest := [.ref (rp 0)]) F (c_X3_readDigits l E r rt rp S ST (mpq SP (nI G.length) o1 l1 r1 kd lm f1 f2 f3 f4) tp sx p 2 ht hp (by decide)) 1 ww_Reader_80 (by decide +kernel) rfl ⟨Nat.le_of_ble_eq_true rfl, Nat.le_of_ble_eq_true rfl⟩ ⟨Nat.le_of_ble_eq_true rfl, Nat.le_of_ble_eq_true rfl⟩ rfl rfl rfl rfl (Nat.le_of_ble_eq_true rfl) dX3_readLimit_6 (fun v_ w1_ hp => ?_)
  obtain ⟨rfl, rfl⟩ := hp
  show Z X (0) (0) (rdw E r (rt 0) (.ref (rp 0)) (mrd S (nI (dgs sx 2 p 0).1)) ++ tpw E rt ST ++ plw E rp (mpq SP (nI G.length) o1 l1 r1 kd lm f1 f2 f3 f4)) [(0, .ref (r 0))] 9 [.int (nI (dgs sx 2 p 0).2), .ref (rp 0)]
  refine z_putN (pc := 9) (ws' := rdw E r (rt 0) (.ref (rp 0)) (mrd S (nI (dgs sx 2 p 0).1)) ++ tpw E rt ST ++ plw E rp (mpq SP (nI G.length) o1 l1 r1 kd (nI (dgs sx 2 p 0).2) f1 f2 f3 f4)) F iX2 tyX2 tyX2_ok nmX2 3 rfl rfl 5 (by decide) nw_205 rfl rfl rfl (Nat.le_of_ble_eq_true rfl) dX3_readLimit_9 rfl ?_
  refine z_iconst (pc := 12) (v := 1) F dX3_readLimit_12 (by decide) ?_
  exact z_zret (pc := 13) F hR rfl dX3_readLimit_13 (Nat.le_of_ble_eq_true rfl) (Nat.le_of_ble_eq_true rfl) ⟨rfl, rfl⟩
set_option maxHeartbeats 4000000 in
set_option maxRecDepth 100000 in
theorem c_X3_read (l : Launch) (E : zE) (r : Nat → Nat) (rt : Nat → Nat) (rp : Nat → Nat) (S : zS) (ST : zS) (SP : zS) (tp : Nat) (sx : Nat → Nat) (xp : Value) (R : zQr) (ht : tpC ST tp sx) (hQ : rq sx 1000 = some R) : Ct l yX3_read cX3_read 3 (some .int) ({ frames := 2006, cells := 0, slots := 0, locals := 60170 } : Room) E (rdw E r (rt 0) xp S ++ tpw E rt ST ++ plw E rp SP) [.ref (r 0), .ref (rp 0)] (fun v_ w_ => ∃ v : Int32, ∃ pl : Int32, ∃ G' : List zNd, ∃ o' : Nat → Int32, ∃ l' : Nat → Int32, ∃ r' : Nat → Int32, ∃ kd' : Int32, ∃ lm' : Int32, ∃ f1' : Int32, ∃ f2' : Int32, ∃ f3' : Int32, ∃ f4' : Int32, v_ = some (.int v) ∧ w_ = rdw E r (rt 0) (.ref (rp 0)) (mrd S pl) ++ tpw E rt ST ++ plw E rp (mpq SP (nI G'.length) o' l' r' kd' lm' f1' f2' f3' f4') ∧ (R.1 = false → v = nI R.2.1) ∧ (R.1 = true → v = -1 ∧ hoN G' o' l' r' ∧ cdone sx R G' kd' lm' f1' f2' f3' f4')) := by
  refine Ct.of (by decide) (Nat.le_of_ble_eq_true rfl) (lv := [(0, .ref (r 0)), (1, .ref (rp 0))]) rfl ?_
  intro X F hR
  have F : zF X l ({ frames := 2006, cells := 0, slots := 0, locals := 60170 } : Room) E cX3_read 3 "LiveQueries$Reader" := F
  have htp := ht.2.1
  have hsx := ht.2.2.2.2
  have h0 := ht.2.2.2.1
  refine z_aload_n (pc := 0) F dX3_read_0 rfl 0 rfl ?_
  refine z_aload_n (pc := 1) F dX3_read_1 rfl 1 rfl ?_
  refine z_put (pc := 2) (ws' := rdw E r (rt 0) (.ref (rp 0)) S ++ tpw E rt ST ++ plw E rp SP) F iX3 tyX3 tyX3_ok nmX3 0 rfl rfl 1 (by decide) tw_148 rfl rfl rfl (Nat.le_of_ble_eq_true rfl) dX3_read_2 rfl ?_
  refine z_aload_n (pc := 5) F dX3_read_5 rfl 0 rfl ?_
  refine z_get (pc := 6) (v := .ref (rp 0)) F iX3 0 rfl rfl 1 (by decide) tw_148 rfl dX3_read_6 ?_
  refine z_callV (pc := 9) (q0 := 3) (ci := 2) (wr := rdw E r (rt 0) (.ref (rp 0)) S ++ tpw E rt ST) (rest := []) F (c_X2_clear l E rp SP) 0 [3, 4, 5, 6] [0, 1, 2] rfl rfl ⟨by decide, by decide, by decide⟩ ww_Reader_23 (by decide +kernel) rfl ⟨Nat.le_of_ble_eq_true rfl, Nat.le_of_ble_eq_true rfl⟩ ⟨Nat.le_of_ble_eq_true rfl, Nat.le_of_ble_eq_true rfl⟩ rfl rfl rfl rfl (Nat.le_of_ble_eq_true rfl) dX3_read_9 (fun v_ w1_ hp => ?_)
  obtain ⟨rfl, rfl⟩ := hp
  show Z X (0) (0) (rdw E r (rt 0) (.ref (rp 0)) S ++ tpw E rt ST ++ plw E rp (zI (zI (zI (zI (zI SP 0 0) 3 (-1)) 4 (-1)) 5 (-1)) 6 (-1))) [(0, .ref (r 0)), (1, .ref (rp 0))] 12 []
  refine z_aload_n (pc := 12) F dX3_read_12 rfl 0 rfl ?_
  refine z_iconst (pc := 13) (v := 0) F dX3_read_13 (by decide) ?_
  refine z_put (pc := 14) (ws' := rdw E r (rt 0) (.ref (rp 0)) (zI S 0 0) ++ tpw E rt ST ++ plw E rp (zI (zI (zI (zI (zI SP 0 0) 3 (-1)) 4 (-1)) 5 (-1)) 6 (-1))) F iX3 tyX3 tyX3_ok nmX3 0 rfl rfl 2 (by decide) tw_149 rfl rfl rfl (Nat.le_of_ble_eq_true rfl) dX3_read_14 rfl ?_
  show Z X (0) (0) (rdw E r (rt 0) (.ref (rp 0)) (mrd S (nI 0)) ++ tpw E rt ST ++ plw E rp (mpq SP (nI ([] : List zNd).length) (za SP 1) (za SP 2) (za SP 3) (zi SP 1) (zi SP 2) (-1) (-1) (-1) (-1))) [(0, .ref (r 0)), (1, .ref (rp 0))] 17 []
  refine z_aload_n (pc := 17) F dX3_read_17 rfl 0 rfl ?_
  rcases Classical.em (48 ≤ sx 0 ∧ sx 0 ≤ 51) with hK | hK
  · have ht0 : 0 < tp := sx_lt h0 (by omega)
    rw [rq, if_pos hK] at hQ
    refine z_callVW (pc := 18) (q0 := 0) (ci := 3) (rest := []) F (c_X3_readKind_y l E r rt rp S ST SP tp sx 0 ([] : List zNd) (za SP 1) (za SP 2) (za SP 3) (zi SP 1) (zi SP 2) (-1) (-1) (-1) (-1) ht (by omega) hK) 0 ww_Reader_28 (by decide +kernel) rfl ⟨Nat.le_of_ble_eq_true rfl, Nat.le_of_ble_eq_true rfl⟩ ⟨Nat.le_of_ble_eq_true rfl, Nat.le_of_ble_eq_true rfl⟩ rfl rfl rfl rfl (Nat.le_of_ble_eq_true rfl) dX3_read_18 (fun v_ w1_ hp => ?_)
    obtain ⟨rfl, rfl⟩ := hp
    show Z X (0) (0) (rdw E r (rt 0) (.ref (rp 0)) (mrd S (nI (0 + 1))) ++ tpw E rt ST ++ plw E rp (mpq SP (nI ([] : List zNd).length) (za SP 1) (za SP 2) (za SP 3) (nI (sx 0 - 48)) (zi SP 2) (-1) (-1) (-1) (-1))) [(0, .ref (r 0)), (1, .ref (rp 0))] 21 [.int 1]
    refine z_if_eq (pc := 21) (tgt := 115) F dX3_read_21 (by decide) (fun h => absurd h (by decide)) (fun _ => ?_)
    refine z_aload_n (pc := 24) F dX3_read_24 rfl 0 rfl ?_
    refine z_bipush (pc := 25) (v := 58) F dX3_read_25 (by decide) ?_
    rcases Classical.em (sx 1 = 58) with kpK | kpK
    · have hltK : 1 < tp := sx_lt h0 (by omega)
      rw [if_pos kpK] at hQ
      refine z_callVW (pc := 27) (q0 := 0) (ci := 3) (rest := []) F (c_X3_pass_y l E r rt rp S ST (mpq SP (nI ([] : List zNd).length) (za SP 1) (za SP 2) (za SP 3) (nI (sx 0 - 48)) (zi SP 2) (-1) (-1) (-1) (-1)) tp sx (0 + 1) 58 ht (by omega) (by decide) kpK) 1 ww_Reader_32 (by decide +kernel) rfl ⟨Nat.le_of_ble_eq_true rfl, Nat.le_of_ble_eq_true rfl⟩ ⟨Nat.le_of_ble_eq_true rfl, Nat.le_of_ble_eq_true rfl⟩ rfl rfl rfl rfl (Nat.le_of_ble_eq_true rfl) dX3_read_27 (fun v_ w1_ hp => ?_)
      obtain ⟨rfl, rfl⟩ := hp
      show Z X (0) (0) (rdw E r (rt 0) (.ref (rp 0)) (mrd S (nI ((0 + 1) + 1))) ++ tpw E rt ST ++ plw E rp (mpq SP (nI ([] : List zNd).length) (za SP 1) (za SP 2) (za SP 3) (nI (sx 0 - 48)) (zi SP 2) (-1) (-1) (-1) (-1))) [(0, .ref (r 0)), (1, .ref (rp 0))] 30 [.int (bI true)]
      rw [show (bI true) = 1 from rfl]
      refine z_if_eq (pc := 30) (tgt := 115) F dX3_read_30 (by decide) (fun h => absurd h (by decide)) (fun _ => ?_)
      refine z_aload_n (pc := 33) F dX3_read_33 rfl 0 rfl ?_
      obtain ⟨b0, q0, e0, hO0, hq0, hr0⟩ := optP_t h0 (stop := 59) (md := 0) (p := 2) (by decide) (by omega) htp; rw [hO0] at hQ; cases b0
      · skip
        refine z_callVW (pc := 34) (q0 := 0) (ci := 3) (rest := []) F (c_X3_readFilter l E r rt rp S ST SP tp sx ((0 + 1) + 1) ([] : List zNd) (za SP 1) (za SP 2) (za SP 3) (nI (sx 0 - 48)) (zi SP 2) (-1) (-1) (-1) ((false, q0, e0) : zRs) ht (by omega) (by simp) (fun i x h => by simp at h) hO0) 0 ww_Reader_36 (by decide +kernel) rfl ⟨Nat.le_of_ble_eq_true rfl, Nat.le_of_ble_eq_true rfl⟩ ⟨Nat.le_of_ble_eq_true rfl, Nat.le_of_ble_eq_true rfl⟩ rfl rfl rfl rfl (Nat.le_of_ble_eq_true rfl) dX3_read_34 (fun v_ w1_ hp => ?_)
        obtain ⟨x0, G0, o0, l0, r0, f0, rfl, rfl, hho0, hf0⟩ := hp
        show Z X (0) (0) (rdw E r (rt 0) (.ref (rp 0)) (mrd S (nI ((false, q0, e0) : zRs).2.1)) ++ tpw E rt ST ++ plw E rp (mpq SP (nI G0.length) o0 l0 r0 (nI (sx 0 - 48)) (zi SP 2) f0 (-1) (-1) (-1))) [(0, .ref (r 0)), (1, .ref (rp 0))] 37 [.int (bI x0)]
        show Z X (0) (0) (rdw E r (rt 0) (.ref (rp 0)) (mrd S (nI q0)) ++ tpw E rt ST ++ plw E rp (mpq SP (nI G0.length) o0 l0 r0 (nI (sx 0 - 48)) (zi SP 2) f0 (-1) (-1) (-1))) [(0, .ref (r 0)), (1, .ref (rp 0))] 37 [.int (bI x0)]
        obtain ⟨hln0, -, hv0⟩ := hf0; rcases hv0 rfl with hv0 | hv0
        · subst hv0
          show Z X (0) (0) (rdw E r (rt 0) (.ref (rp 0)) (mrd S (nI q0)) ++ tpw E rt ST ++ plw E rp (mpq SP (nI G0.length) o0 l0 r0 (nI (sx 0 - 48)) (zi SP 2) f0 (-1) (-1) (-1))) [(0, .ref (r 0)), (1, .ref (rp 0))] 37 [.int 0]
          refine z_if_eq (pc := 37) (tgt := 115) F dX3_read_37 (by decide) (fun _ => ?_) (fun h => absurd h (by decide))
          refine z_iconst (pc := 115) (v := 0) F dX3_read_115 (by decide) ?_
          refine z_istore_n (pc := 116) (lv' := [(0, .ref (r 0)), (1, .ref (rp 0)), (2, .int 0)]) F dX3_read_116 rfl (by decide) [1, 2, 0] rfl ?_
          refine z_iload_n (pc := 117) F dX3_read_117 rfl 2 rfl ?_
          refine z_if_eq (pc := 118) (tgt := 125) F dX3_read_118 (by decide) (fun _ => ?_) (fun h => absurd h (by decide))
          refine z_aload_n (pc := 125) F dX3_read_125 rfl 0 rfl ?_
          refine z_get (pc := 126) (v := .int (nI q0)) F iX3 0 rfl rfl 2 (by decide) tw_149 rfl dX3_read_126 ?_
          exact z_iret (pc := 129) F hR dX3_read_129 (Nat.le_of_ble_eq_true rfl) (Nat.le_of_ble_eq_true rfl) (by cases hQ; exact ⟨_, _, G0, _, _, _, _, _, _, _, _, _, rfl, rfl, fun _ => rfl, fun h => Bool.noConfusion h⟩)
        · obtain ⟨hx0, hd0⟩ := hv0; subst hx0
          replace hd0 : isD (sx q0) = true := hd0
          show Z X (0) (0) (rdw E r (rt 0) (.ref (rp 0)) (mrd S (nI q0)) ++ tpw E rt ST ++ plw E rp (mpq SP (nI G0.length) o0 l0 r0 (nI (sx 0 - 48)) (zi SP 2) f0 (-1) (-1) (-1))) [(0, .ref (r 0)), (1, .ref (rp 0))] 37 [.int 1]
          refine z_if_eq (pc := 37) (tgt := 115) F dX3_read_37 (by decide) (fun h => absurd h (by decide)) (fun _ => ?_)
          refine z_aload_n (pc := 40) F dX3_read_40 rfl 0 rfl ?_
          refine z_bipush (pc := 41) (v := 59) F dX3_read_41 (by decide) ?_
          have kp0 : ¬ sx q0 = 59 := isD_ne hd0 (by decide)
          · skip
            refine z_callVW (pc := 43) (q0 := 0) (ci := 3) (rest := []) F (c_X3_pass_n l E r rt rp S ST (mpq SP (nI G0.length) o0 l0 r0 (nI (sx 0 - 48)) (zi SP 2) f0 (-1) (-1) (-1)) tp sx q0 59 ht (by omega) (by decide) kp0) 1 ww_Reader_32 (by decide +kernel) rfl ⟨Nat.le_of_ble_eq_true rfl, Nat.le_of_ble_eq_true rfl⟩ ⟨Nat.le_of_ble_eq_true rfl, Nat.le_of_ble_eq_true rfl⟩ rfl rfl rfl rfl (Nat.le_of_ble_eq_true rfl) dX3_read_43 (fun v_ w1_ hp => ?_)
            obtain ⟨rfl, rfl⟩ := hp
            show Z X (0) (0) (rdw E r (rt 0) (.ref (rp 0)) (mrd S (nI q0)) ++ tpw E rt ST ++ plw E rp (mpq SP (nI G0.length) o0 l0 r0 (nI (sx 0 - 48)) (zi SP 2) f0 (-1) (-1) (-1))) [(0, .ref (r 0)), (1, .ref (rp 0))] 46 [.int (bI false)]
            rw [show (bI false) = 0 from rfl]
            refine z_if_eq (pc := 46) (tgt := 115) F dX3_read_46 (by decide) (fun _ => ?_) (fun h => absurd h (by decide))
            refine z_iconst (pc := 115) (v := 0) F dX3_read_115 (by decide) ?_
            refine z_istore_n (pc := 116) (lv' := [(0, .ref (r 0)), (1, .ref (rp 0)), (2, .int 0)]) F dX3_read_116 rfl (by decide) [1, 2, 0] rfl ?_
            refine z_iload_n (pc := 117) F dX3_read_117 rfl 2 rfl ?_
            refine z_if_eq (pc := 118) (tgt := 125) F dX3_read_118 (by decide) (fun _ => ?_) (fun h => absurd h (by decide))
            refine z_aload_n (pc := 125) F dX3_read_125 rfl 0 rfl ?_
            refine z_get (pc := 126) (v := .int (nI q0)) F iX3 0 rfl rfl 2 (by decide) tw_149 rfl dX3_read_126 ?_
            exact z_iret (pc := 129) F hR dX3_read_129 (Nat.le_of_ble_eq_true rfl) (Nat.le_of_ble_eq_true rfl) (by cases hQ; exact ⟨_, _, G0, _, _, _, _, _, _, _, _, _, rfl, rfl, fun _ => rfl, fun h => Bool.noConfusion h⟩)
      · skip
        refine z_callVW (pc := 34) (q0 := 0) (ci := 3) (rest := []) F (c_X3_readFilter l E r rt rp S ST SP tp sx ((0 + 1) + 1) ([] : List zNd) (za SP 1) (za SP 2) (za SP 3) (nI (sx 0 - 48)) (zi SP 2) (-1) (-1) (-1) ((true, q0, e0) : zRs) ht (by omega) (by simp) (fun i x h => by simp at h) hO0) 0 ww_Reader_36 (by decide +kernel) rfl ⟨Nat.le_of_ble_eq_true rfl, Nat.le_of_ble_eq_true rfl⟩ ⟨Nat.le_of_ble_eq_true rfl, Nat.le_of_ble_eq_true rfl⟩ rfl rfl rfl rfl (Nat.le_of_ble_eq_true rfl) dX3_read_34 (fun v_ w1_ hp => ?_)
        obtain ⟨x0, G0, o0, l0, r0, f0, rfl, rfl, hho0, hf0⟩ := hp
        show Z X (0) (0) (rdw E r (rt 0) (.ref (rp 0)) (mrd S (nI ((true, q0, e0) : zRs).2.1)) ++ tpw E rt ST ++ plw E rp (mpq SP (nI G0.length) o0 l0 r0 (nI (sx 0 - 48)) (zi SP 2) f0 (-1) (-1) (-1))) [(0, .ref (r 0)), (1, .ref (rp 0))] 37 [.int (bI x0)]
        show Z X (0) (0) (rdw E r (rt 0) (.ref (rp 0)) (mrd S (nI q0)) ++ tpw E rt ST ++ plw E rp (mpq SP (nI G0.length) o0 l0 r0 (nI (sx 0 - 48)) (zi SP 2) f0 (-1) (-1) (-1))) [(0, .ref (r 0)), (1, .ref (rp 0))] 37 [.int (bI x0)]
        obtain ⟨hln0, hv0, -⟩ := hf0; obtain ⟨hx0, hp0⟩ := hv0 rfl; subst hx0
        · dsimp only [List.length_nil] at hln0 hp0
          show Z X (0) (0) (rdw E r (rt 0) (.ref (rp 0)) (mrd S (nI q0)) ++ tpw E rt ST ++ plw E rp (mpq SP (nI G0.length) o0 l0 r0 (nI (sx 0 - 48)) (zi SP 2) f0 (-1) (-1) (-1))) [(0, .ref (r 0)), (1, .ref (rp 0))] 37 [.int 1]
          refine z_if_eq (pc := 37) (tgt := 115) F dX3_read_37 (by decide) (fun h => absurd h (by decide)) (fun _ => ?_)
          refine z_aload_n (pc := 40) F dX3_read_40 rfl 0 rfl ?_
          refine z_bipush (pc := 41) (v := 59) F dX3_read_41 (by decide) ?_
          rcases Classical.em (sx q0 = 59) with kp0 | kp0
          · have hlt0 : q0 < tp := sx_lt h0 (by omega)
            rw [show pq (some (true, q0, e0)) (fun p c0 => rq0 sx 1000 p c0) = rq0 sx 1000 q0 e0 from rfl, rq0, if_pos kp0] at hQ
            refine z_callVW (pc := 43) (q0 := 0) (ci := 3) (rest := []) F (c_X3_pass_y l E r rt rp S ST (mpq SP (nI G0.length) o0 l0 r0 (nI (sx 0 - 48)) (zi SP 2) f0 (-1) (-1) (-1)) tp sx q0 59 ht (by omega) (by decide) kp0) 1 ww_Reader_32 (by decide +kernel) rfl ⟨Nat.le_of_ble_eq_true rfl, Nat.le_of_ble_eq_true rfl⟩ ⟨Nat.le_of_ble_eq_true rfl, Nat.le_of_ble_eq_true rfl⟩ rfl rfl rfl rfl (Nat.le_of_ble_eq_true rfl) dX3_read_43 (fun v_ w1_ hp => ?_)
            obtain ⟨rfl, rfl⟩ := hp
            show Z X (0) (0) (rdw E r (rt 0) (.ref (rp 0)) (mrd S (nI (q0 + 1))) ++ tpw E rt ST ++ plw E rp (mpq SP (nI G0.length) o0 l0 r0 (nI (sx 0 - 48)) (zi SP 2) f0 (-1) (-1) (-1))) [(0, .ref (r 0)), (1, .ref (rp 0))] 46 [.int (bI true)]
            rw [show (bI true) = 1 from rfl]
            refine z_if_eq (pc := 46) (tgt := 115) F dX3_read_46 (by decide) (fun h => absurd h (by decide)) (fun _ => ?_)
            refine z_aload_n (pc := 49) F dX3_read_49 rfl 0 rfl ?_
            obtain ⟨b1, q1, e1, hO1, hq1, hr1⟩ := optP_t h0 (stop := 59) (md := 5) (p := q0 + 1) (by decide) (by omega) htp; rw [hO1] at hQ; cases b1
            · skip
              refine z_callVW (pc := 50) (q0 := 0) (ci := 3) (rest := []) F (c_X3_readSort l E r rt rp S ST SP tp sx (q0 + 1) G0 o0 l0 r0 (nI (sx 0 - 48)) (zi SP 2) f0 (-1) (-1) ((false, q1, e1) : zRs) ht (by omega) (by omega) hho0 hO1) 0 ww_Reader_39 (by decide +kernel) rfl ⟨Nat.le_of_ble_eq_true rfl, Nat.le_of_ble_eq_true rfl⟩ ⟨Nat.le_of_ble_eq_true rfl, Nat.le_of_ble_eq_true rfl⟩ rfl rfl rfl rfl (Nat.le_of_ble_eq_true rfl) dX3_read_50 (fun v_ w1_ hp => ?_)
              obtain ⟨x1, G1, o1, l1, r1, f1, rfl, rfl, hho1, hf1⟩ := hp
              show Z X (0) (0) (rdw E r (rt 0) (.ref (rp 0)) (mrd S (nI ((false, q1, e1) : zRs).2.1)) ++ tpw E rt ST ++ plw E rp (mpq SP (nI G1.length) o1 l1 r1 (nI (sx 0 - 48)) (zi SP 2) f0 f1 (-1) (-1))) [(0, .ref (r 0)), (1, .ref (rp 0))] 53 [.int (bI x1)]
              show Z X (0) (0) (rdw E r (rt 0) (.ref (rp 0)) (mrd S (nI q1)) ++ tpw E rt ST ++ plw E rp (mpq SP (nI G1.length) o1 l1 r1 (nI (sx 0 - 48)) (zi SP 2) f0 f1 (-1) (-1))) [(0, .ref (r 0)), (1, .ref (rp 0))] 53 [.int (bI x1)]
              obtain ⟨hln1, -, hv1⟩ := hf1; rcases hv1 rfl with hv1 | hv1
              · subst hv1
                show Z X (0) (0) (rdw E r (rt 0) (.ref (rp 0)) (mrd S (nI q1)) ++ tpw E rt ST ++ plw E rp (mpq SP (nI G1.length) o1 l1 r1 (nI (sx 0 - 48)) (zi SP 2) f0 f1 (-1) (-1))) [(0, .ref (r 0)), (1, .ref (rp 0))] 53 [.int 0]
                refine z_if_eq (pc := 53) (tgt := 115) F dX3_read_53 (by decide) (fun _ => ?_) (fun h => absurd h (by decide))
                refine z_iconst (pc := 115) (v := 0) F dX3_read_115 (by decide) ?_
                refine z_istore_n (pc := 116) (lv' := [(0, .ref (r 0)), (1, .ref (rp 0)), (2, .int 0)]) F dX3_read_116 rfl (by decide) [1, 2, 0] rfl ?_
                refine z_iload_n (pc := 117) F dX3_read_117 rfl 2 rfl ?_
                refine z_if_eq (pc := 118) (tgt := 125) F dX3_read_118 (by decide) (fun _ => ?_) (fun h => absurd h (by decide))
                refine z_aload_n (pc := 125) F dX3_read_125 rfl 0 rfl ?_
                refine z_get (pc := 126) (v := .int (nI q1)) F iX3 0 rfl rfl 2 (by decide) tw_149 rfl dX3_read_126 ?_
                exact z_iret (pc := 129) F hR dX3_read_129 (Nat.le_of_ble_eq_true rfl) (Nat.le_of_ble_eq_true rfl) (by cases hQ; exact ⟨_, _, G1, _, _, _, _, _, _, _, _, _, rfl, rfl, fun _ => rfl, fun h => Bool.noConfusion h⟩)
              · obtain ⟨hx1, hd1⟩ := hv1; subst hx1
                replace hd1 : isD (sx q1) = true := hd1
                show Z X (0) (0) (rdw E r (rt 0) (.ref (rp 0)) (mrd S (nI q1)) ++ tpw E rt ST ++ plw E rp (mpq SP (nI G1.length) o1 l1 r1 (nI (sx 0 - 48)) (zi SP 2) f0 f1 (-1) (-1))) [(0, .ref (r 0)), (1, .ref (rp 0))] 53 [.int 1]
                refine z_if_eq (pc := 53) (tgt := 115) F dX3_read_53 (by decide) (fun h => absurd h (by decide)) (fun _ => ?_)
                refine z_aload_n (pc := 56) F dX3_read_56 rfl 0 rfl ?_
                refine z_bipush (pc := 57) (v := 59) F dX3_read_57 (by decide) ?_
                have kp1 : ¬ sx q1 = 59 := isD_ne hd1 (by decide)
                · skip
                  refine z_callVW (pc := 59) (q0 := 0) (ci := 3) (rest := []) F (c_X3_pass_n l E r rt rp S ST (mpq SP (nI G1.length) o1 l1 r1 (nI (sx 0 - 48)) (zi SP 2) f0 f1 (-1) (-1)) tp sx q1 59 ht (by omega) (by decide) kp1) 1 ww_Reader_32 (by decide +kernel) rfl ⟨Nat.le_of_ble_eq_true rfl, Nat.le_of_ble_eq_true rfl⟩ ⟨Nat.le_of_ble_eq_true rfl, Nat.le_of_ble_eq_true rfl⟩ rfl rfl rfl rfl (Nat.le_of_ble_eq_true rfl) dX3_read_59 (fun v_ w1_ hp => ?_)
                  obtain ⟨rfl, rfl⟩ := hp
                  show Z X (0) (0) (rdw E r (rt 0) (.ref (rp 0)) (mrd S (nI q1)) ++ tpw E rt ST ++ plw E rp (mpq SP (nI G1.length) o1 l1 r1 (nI (sx 0 - 48)) (zi SP 2) f0 f1 (-1) (-1))) [(0, .ref (r 0)), (1, .ref (rp 0))] 62 [.int (bI false)]
                  rw [show (bI false) = 0 from rfl]
                  refine z_if_eq (pc := 62) (tgt := 115) F dX3_read_62 (by decide) (fun _ => ?_) (fun h => absurd h (by decide))
                  refine z_iconst (pc := 115) (v := 0) F dX3_read_115 (by decide) ?_
                  refine z_istore_n (pc := 116) (lv' := [(0, .ref (r 0)), (1, .ref (rp 0)), (2, .int 0)]) F dX3_read_116 rfl (by decide) [1, 2, 0] rfl ?_
                  refine z_iload_n (pc := 117) F dX3_read_117 rfl 2 rfl ?_
                  refine z_if_eq (pc := 118) (tgt := 125) F dX3_read_118 (by decide) (fun _ => ?_) (fun h => absurd h (by decide))
                  refine z_aload_n (pc := 125) F dX3_read_125 rfl 0 rfl ?_
                  refine z_get (pc := 126) (v := .int (nI q1)) F iX3 0 rfl rfl 2 (by decide) tw_149 rfl dX3_read_126 ?_
                  exact z_iret (pc := 129) F hR dX3_read_129 (Nat.le_of_ble_eq_true rfl) (Nat.le_of_ble_eq_true rfl) (by cases hQ; exact ⟨_, _, G1, _, _, _, _, _, _, _, _, _, rfl, rfl, fun _ => rfl, fun h => Bool.noConfusion h⟩)
            · skip
              refine z_callVW (pc := 50) (q0 := 0) (ci := 3) (rest := []) F (c_X3_readSort l E r rt rp S ST SP tp sx (q0 + 1) G0 o0 l0 r0 (nI (sx 0 - 48)) (zi SP 2) f0 (-1) (-1) ((true, q1, e1) : zRs) ht (by omega) (by omega) hho0 hO1) 0 ww_Reader_39 (by decide +kernel) rfl ⟨Nat.le_of_ble_eq_true rfl, Nat.le_of_ble_eq_true rfl⟩ ⟨Nat.le_of_ble_eq_true rfl, Nat.le_of_ble_eq_true rfl⟩ rfl rfl rfl rfl (Nat.le_of_ble_eq_true rfl) dX3_read_50 (fun v_ w1_ hp => ?_)
              obtain ⟨x1, G1, o1, l1, r1, f1, rfl, rfl, hho1, hf1⟩ := hp
              show Z X (0) (0) (rdw E r (rt 0) (.ref (rp 0)) (mrd S (nI ((true, q1, e1) : zRs).2.1)) ++ tpw E rt ST ++ plw E rp (mpq SP (nI G1.length) o1 l1 r1 (nI (sx 0 - 48)) (zi SP 2) f0 f1 (-1) (-1))) [(0, .ref (r 0)), (1, .ref (rp 0))] 53 [.int (bI x1)]
              show Z X (0) (0) (rdw E r (rt 0) (.ref (rp 0)) (mrd S (nI q1)) ++ tpw E rt ST ++ plw E rp (mpq SP (nI G1.length) o1 l1 r1 (nI (sx 0 - 48)) (zi SP 2) f0 f1 (-1) (-1))) [(0, .ref (r 0)), (1, .ref (rp 0))] 53 [.int (bI x1)]
              obtain ⟨hln1, hv1, -⟩ := hf1; obtain ⟨hx1, hp1⟩ := hv1 rfl; subst hx1
              · dsimp only [List.length_nil] at hln1 hp1
                show Z X (0) (0) (rdw E r (rt 0) (.ref (rp 0)) (mrd S (nI q1)) ++ tpw E rt ST ++ plw E rp (mpq SP (nI G1.length) o1 l1 r1 (nI (sx 0 - 48)) (zi SP 2) f0 f1 (-1) (-1))) [(0, .ref (r 0)), (1, .ref (rp 0))] 53 [.int 1]
                refine z_if_eq (pc := 53) (tgt := 115) F dX3_read_53 (by decide) (fun h => absurd h (by decide)) (fun _ => ?_)
                refine z_aload_n (pc := 56) F dX3_read_56 rfl 0 rfl ?_
                refine z_bipush (pc := 57) (v := 59) F dX3_read_57 (by decide) ?_
                rcases Classical.em (sx q1 = 59) with kp1 | kp1
                · have hlt1 : q1 < tp := sx_lt h0 (by omega)
                  rw [show pq (some (true, q1, e1)) (fun p c1 => rq1 sx 1000 p e0 c1) = rq1 sx 1000 q1 e0 e1 from rfl, rq1, if_pos kp1] at hQ
                  refine z_callVW (pc := 59) (q0 := 0) (ci := 3) (rest := []) F (c_X3_pass_y l E r rt rp S ST (mpq SP (nI G1.length) o1 l1 r1 (nI (sx 0 - 48)) (zi SP 2) f0 f1 (-1) (-1)) tp sx q1 59 ht (by omega) (by decide) kp1) 1 ww_Reader_32 (by decide +kernel) rfl ⟨Nat.le_of_ble_eq_true rfl, Nat.le_of_ble_eq_true rfl⟩ ⟨Nat.le_of_ble_eq_true rfl, Nat.le_of_ble_eq_true rfl⟩ rfl rfl rfl rfl (Nat.le_of_ble_eq_true rfl) dX3_read_59 (fun v_ w1_ hp => ?_)
                  obtain ⟨rfl, rfl⟩ := hp
                  show Z X (0) (0) (rdw E r (rt 0) (.ref (rp 0)) (mrd S (nI (q1 + 1))) ++ tpw E rt ST ++ plw E rp (mpq SP (nI G1.length) o1 l1 r1 (nI (sx 0 - 48)) (zi SP 2) f0 f1 (-1) (-1))) [(0, .ref (r 0)), (1, .ref (rp 0))] 62 [.int (bI true)]
                  rw [show (bI true) = 1 from rfl]
                  refine z_if_eq (pc := 62) (tgt := 115) F dX3_read_62 (by decide) (fun h => absurd h (by decide)) (fun _ => ?_)
                  have hdb := dgs_b h0 2 (q1 + 1) 0
                  have hdb2 := hdb.2.1 (by omega)
                  obtain ⟨dp, hdp⟩ : ∃ dp, dp = (dgs sx 2 (q1 + 1) 0).1 := ⟨_, rfl⟩
                  obtain ⟨dv, hdv⟩ : ∃ dv, dv = (dgs sx 2 (q1 + 1) 0).2 := ⟨_, rfl⟩
                  refine z_aload_n (pc := 65) F dX3_read_65 rfl 0 rfl ?_
                  refine z_callVW (pc := 66) (q0 := 0) (ci := 3) (rest := []) F (c_X3_readLimit l E r rt rp S ST SP tp sx (q1 + 1) G1 o1 l1 r1 (nI (sx 0 - 48)) (zi SP 2) f0 f1 (-1) (-1) ht (by omega)) 0 ww_Reader_42 (by decide +kernel) rfl ⟨Nat.le_of_ble_eq_true rfl, Nat.le_of_ble_eq_true rfl⟩ ⟨Nat.le_of_ble_eq_true rfl, Nat.le_of_ble_eq_true rfl⟩ rfl rfl rfl rfl (Nat.le_of_ble_eq_true rfl) dX3_read_66 (fun v_ w1_ hp => ?_)
                  obtain ⟨rfl, rfl⟩ := hp
                  show Z X (0) (0) (rdw E r (rt 0) (.ref (rp 0)) (mrd S (nI (dgs sx 2 (q1 + 1) 0).1)) ++ tpw E rt ST ++ plw E rp (mpq SP (nI G1.length) o1 l1 r1 (nI (sx 0 - 48)) (nI (dgs sx 2 (q1 + 1) 0).2) f0 f1 (-1) (-1))) [(0, .ref (r 0)), (1, .ref (rp 0))] 69 [.int 1]
                  rw [← hdp, ← hdv]
                  rw [← hdp, ← hdv] at hQ
                  rw [← hdp] at hdb hdb2
                  refine z_if_eq (pc := 69) (tgt := 115) F dX3_read_69 (by decide) (fun h => absurd h (by decide)) (fun _ => ?_)
                  refine z_aload_n (pc := 72) F dX3_read_72 rfl 0 rfl ?_
                  refine z_bipush (pc := 73) (v := 59) F dX3_read_73 (by decide) ?_
                  rcases Classical.em (sx dp = 59) with kpL | kpL
                  · have hltL : dp < tp := sx_lt h0 (by omega)
                    rw [rq2, if_pos kpL] at hQ
                    refine z_callVW (pc := 75) (q0 := 0) (ci := 3) (rest := []) F (c_X3_pass_y l E r rt rp S ST (mpq SP (nI G1.length) o1 l1 r1 (nI (sx 0 - 48)) (nI dv) f0 f1 (-1) (-1)) tp sx dp 59 ht (by omega) (by decide) kpL) 1 ww_Reader_32 (by decide +kernel) rfl ⟨Nat.le_of_ble_eq_true rfl, Nat.le_of_ble_eq_true rfl⟩ ⟨Nat.le_of_ble_eq_true rfl, Nat.le_of_ble_eq_true rfl⟩ rfl rfl rfl rfl (Nat.le_of_ble_eq_true rfl) dX3_read_75 (fun v_ w1_ hp => ?_)
                    obtain ⟨rfl, rfl⟩ := hp
                    show Z X (0) (0) (rdw E r (rt 0) (.ref (rp 0)) (mrd S (nI (dp + 1))) ++ tpw E rt ST ++ plw E rp (mpq SP (nI G1.length) o1 l1 r1 (nI (sx 0 - 48)) (nI dv) f0 f1 (-1) (-1))) [(0, .ref (r 0)), (1, .ref (rp 0))] 78 [.int (bI true)]
                    rw [show (bI true) = 1 from rfl]
                    refine z_if_eq (pc := 78) (tgt := 115) F dX3_read_78 (by decide) (fun h => absurd h (by decide)) (fun _ => ?_)
                    refine z_aload_n (pc := 81) F dX3_read_81 rfl 0 rfl ?_
                    obtain ⟨b2, q2, e2, hO2, hq2, hr2⟩ := optP_t h0 (stop := 59) (md := 5) (p := dp + 1) (by decide) (by omega) htp; rw [hO2] at hQ; cases b2
                    · skip
                      refine z_callVW (pc := 82) (q0 := 0) (ci := 3) (rest := []) F (c_X3_readGroup l E r rt rp S ST SP tp sx (dp + 1) G1 o1 l1 r1 (nI (sx 0 - 48)) (nI dv) f0 f1 (-1) ((false, q2, e2) : zRs) ht (by omega) (by omega) hho1 hO2) 0 ww_Reader_45 (by decide +kernel) rfl ⟨Nat.le_of_ble_eq_true rfl, Nat.le_of_ble_eq_true rfl⟩ ⟨Nat.le_of_ble_eq_true rfl, Nat.le_of_ble_eq_true rfl⟩ rfl rfl rfl rfl (Nat.le_of_ble_eq_true rfl) dX3_read_82 (fun v_ w1_ hp => ?_)
                      obtain ⟨x2, G2, o2, l2, r2, f2, rfl, rfl, hho2, hf2⟩ := hp
                      show Z X (0) (0) (rdw E r (rt 0) (.ref (rp 0)) (mrd S (nI ((false, q2, e2) : zRs).2.1)) ++ tpw E rt ST ++ plw E rp (mpq SP (nI G2.length) o2 l2 r2 (nI (sx 0 - 48)) (nI dv) f0 f1 f2 (-1))) [(0, .ref (r 0)), (1, .ref (rp 0))] 85 [.int (bI x2)]
                      show Z X (0) (0) (rdw E r (rt 0) (.ref (rp 0)) (mrd S (nI q2)) ++ tpw E rt ST ++ plw E rp (mpq SP (nI G2.length) o2 l2 r2 (nI (sx 0 - 48)) (nI dv) f0 f1 f2 (-1))) [(0, .ref (r 0)), (1, .ref (rp 0))] 85 [.int (bI x2)]
                      obtain ⟨hln2, -, hv2⟩ := hf2; rcases hv2 rfl with hv2 | hv2
                      · subst hv2
                        show Z X (0) (0) (rdw E r (rt 0) (.ref (rp 0)) (mrd S (nI q2)) ++ tpw E rt ST ++ plw E rp (mpq SP (nI G2.length) o2 l2 r2 (nI (sx 0 - 48)) (nI dv) f0 f1 f2 (-1))) [(0, .ref (r 0)), (1, .ref (rp 0))] 85 [.int 0]
                        refine z_if_eq (pc := 85) (tgt := 115) F dX3_read_85 (by decide) (fun _ => ?_) (fun h => absurd h (by decide))
                        refine z_iconst (pc := 115) (v := 0) F dX3_read_115 (by decide) ?_
                        refine z_istore_n (pc := 116) (lv' := [(0, .ref (r 0)), (1, .ref (rp 0)), (2, .int 0)]) F dX3_read_116 rfl (by decide) [1, 2, 0] rfl ?_
                        refine z_iload_n (pc := 117) F dX3_read_117 rfl 2 rfl ?_
                        refine z_if_eq (pc := 118) (tgt := 125) F dX3_read_118 (by decide) (fun _ => ?_) (fun h => absurd h (by decide))
                        refine z_aload_n (pc := 125) F dX3_read_125 rfl 0 rfl ?_
                        refine z_get (pc := 126) (v := .int (nI q2)) F iX3 0 rfl rfl 2 (by decide) tw_149 rfl dX3_read_126 ?_
                        exact z_iret (pc := 129) F hR dX3_read_129 (Nat.le_of_ble_eq_true rfl) (Nat.le_of_ble_eq_true rfl) (by cases hQ; exact ⟨_, _, G2, _, _, _, _, _, _, _, _, _, rfl, rfl, fun _ => rfl, fun h => Bool.noConfusion h⟩)
                      · obtain ⟨hx2, hd2⟩ := hv2; subst hx2
                        replace hd2 : isD (sx q2) = true := hd2
                        show Z X (0) (0) (rdw E r (rt 0) (.ref (rp 0)) (mrd S (nI q2)) ++ tpw E rt ST ++ plw E rp (mpq SP (nI G2.length) o2 l2 r2 (nI (sx 0 - 48)) (nI dv) f0 f1 f2 (-1))) [(0, .ref (r 0)), (1, .ref (rp 0))] 85 [.int 1]
                        refine z_if_eq (pc := 85) (tgt := 115) F dX3_read_85 (by decide) (fun h => absurd h (by decide)) (fun _ => ?_)
                        refine z_aload_n (pc := 88) F dX3_read_88 rfl 0 rfl ?_
                        refine z_bipush (pc := 89) (v := 59) F dX3_read_89 (by decide) ?_
                        have kp2 : ¬ sx q2 = 59 := isD_ne hd2 (by decide)
                        · skip
                          refine z_callVW (pc := 91) (q0 := 0) (ci := 3) (rest := []) F (c_X3_pass_n l E r rt rp S ST (mpq SP (nI G2.length) o2 l2 r2 (nI (sx 0 - 48)) (nI dv) f0 f1 f2 (-1)) tp sx q2 59 ht (by omega) (by decide) kp2) 1 ww_Reader_32 (by decide +kernel) rfl ⟨Nat.le_of_ble_eq_true rfl, Nat.le_of_ble_eq_true rfl⟩ ⟨Nat.le_of_ble_eq_true rfl, Nat.le_of_ble_eq_true rfl⟩ rfl rfl rfl rfl (Nat.le_of_ble_eq_true rfl) dX3_read_91 (fun v_ w1_ hp => ?_)
                          obtain ⟨rfl, rfl⟩ := hp
                          show Z X (0) (0) (rdw E r (rt 0) (.ref (rp 0)) (mrd S (nI q2)) ++ tpw E rt ST ++ plw E rp (mpq SP (nI G2.length) o2 l2 r2 (nI (sx 0 - 48)) (nI dv) f0 f1 f2 (-1))) [(0, .ref (r 0)), (1, .ref (rp 0))] 94 [.int (bI false)]
                          rw [show (bI false) = 0 from rfl]
                          refine z_if_eq (pc := 94) (tgt := 115) F dX3_read_94 (by decide) (fun _ => ?_) (fun h => absurd h (by decide))
                          refine z_iconst (pc := 115) (v := 0) F dX3_read_115 (by decide) ?_
                          refine z_istore_n (pc := 116) (lv' := [(0, .ref (r 0)), (1, .ref (rp 0)), (2, .int 0)]) F dX3_read_116 rfl (by decide) [1, 2, 0] rfl ?_
                          refine z_iload_n (pc := 117) F dX3_read_117 rfl 2 rfl ?_
                          refine z_if_eq (pc := 118) (tgt := 125) F dX3_read_118 (by decide) (fun _ => ?_) (fun h => absurd h (by decide))
                          refine z_aload_n (pc := 125) F dX3_read_125 rfl 0 rfl ?_
                          refine z_get (pc := 126) (v := .int (nI q2)) F iX3 0 rfl rfl 2 (by decide) tw_149 rfl dX3_read_126 ?_
                          exact z_iret (pc := 129) F hR dX3_read_129 (Nat.le_of_ble_eq_true rfl) (Nat.le_of_ble_eq_true rfl) (by cases hQ; exact ⟨_, _, G2, _, _, _, _, _, _, _, _, _, rfl, rfl, fun _ => rfl, fun h => Bool.noConfusion h⟩)
                    · skip
                      refine z_callVW (pc := 82) (q0 := 0) (ci := 3) (rest := []) F (c_X3_readGroup l E r rt rp S ST SP tp sx (dp + 1) G1 o1 l1 r1 (nI (sx 0 - 48)) (nI dv) f0 f1 (-1) ((true, q2, e2) : zRs) ht (by omega) (by omega) hho1 hO2) 0 ww_Reader_45 (by decide +kernel) rfl ⟨Nat.le_of_ble_eq_true rfl, Nat.le_of_ble_eq_true rfl⟩ ⟨Nat.le_of_ble_eq_true rfl, Nat.le_of_ble_eq_true rfl⟩ rfl rfl rfl rfl (Nat.le_of_ble_eq_true rfl) dX3_read_82 (fun v_ w1_ hp => ?_)
                      obtain ⟨x2, G2, o2, l2, r2, f2, rfl, rfl, hho2, hf2⟩ := hp
                      show Z X (0) (0) (rdw E r (rt 0) (.ref (rp 0)) (mrd S (nI ((true, q2, e2) : zRs).2.1)) ++ tpw E rt ST ++ plw E rp (mpq SP (nI G2.length) o2 l2 r2 (nI (sx 0 - 48)) (nI dv) f0 f1 f2 (-1))) [(0, .ref (r 0)), (1, .ref (rp 0))] 85 [.int (bI x2)]
                      show Z X (0) (0) (rdw E r (rt 0) (.ref (rp 0)) (mrd S (nI q2)) ++ tpw E rt ST ++ plw E rp (mpq SP (nI G2.length) o2 l2 r2 (nI (sx 0 - 48)) (nI dv) f0 f1 f2 (-1))) [(0, .ref (r 0)), (1, .ref (rp 0))] 85 [.int (bI x2)]
                      obtain ⟨hln2, hv2, -⟩ := hf2; obtain ⟨hx2, hp2⟩ := hv2 rfl; subst hx2
                      · dsimp only [List.length_nil] at hln2 hp2
                        show Z X (0) (0) (rdw E r (rt 0) (.ref (rp 0)) (mrd S (nI q2)) ++ tpw E rt ST ++ plw E rp (mpq SP (nI G2.length) o2 l2 r2 (nI (sx 0 - 48)) (nI dv) f0 f1 f2 (-1))) [(0, .ref (r 0)), (1, .ref (rp 0))] 85 [.int 1]
                        refine z_if_eq (pc := 85) (tgt := 115) F dX3_read_85 (by decide) (fun h => absurd h (by decide)) (fun _ => ?_)
                        refine z_aload_n (pc := 88) F dX3_read_88 rfl 0 rfl ?_
                        refine z_bipush (pc := 89) (v := 59) F dX3_read_89 (by decide) ?_
                        rcases Classical.em (sx q2 = 59) with kp2 | kp2
                        · have hlt2 : q2 < tp := sx_lt h0 (by omega)
                          rw [show pq (some (true, q2, e2)) (fun p c2 => rq3 sx 1000 p dv e0 e1 c2) = rq3 sx 1000 q2 dv e0 e1 e2 from rfl, rq3, if_pos kp2] at hQ
                          refine z_callVW (pc := 91) (q0 := 0) (ci := 3) (rest := []) F (c_X3_pass_y l E r rt rp S ST (mpq SP (nI G2.length) o2 l2 r2 (nI (sx 0 - 48)) (nI dv) f0 f1 f2 (-1)) tp sx q2 59 ht (by omega) (by decide) kp2) 1 ww_Reader_32 (by decide +kernel) rfl ⟨Nat.le_of_ble_eq_true rfl, Nat.le_of_ble_eq_true rfl⟩ ⟨Nat.le_of_ble_eq_true rfl, Nat.le_of_ble_eq_true rfl⟩ rfl rfl rfl rfl (Nat.le_of_ble_eq_true rfl) dX3_read_91 (fun v_ w1_ hp => ?_)
                          obtain ⟨rfl, rfl⟩ := hp
                          show Z X (0) (0) (rdw E r (rt 0) (.ref (rp 0)) (mrd S (nI (q2 + 1))) ++ tpw E rt ST ++ plw E rp (mpq SP (nI G2.length) o2 l2 r2 (nI (sx 0 - 48)) (nI dv) f0 f1 f2 (-1))) [(0, .ref (r 0)), (1, .ref (rp 0))] 94 [.int (bI true)]
                          rw [show (bI true) = 1 from rfl]
                          refine z_if_eq (pc := 94) (tgt := 115) F dX3_read_94 (by decide) (fun h => absurd h (by decide)) (fun _ => ?_)
                          refine z_aload_n (pc := 97) F dX3_read_97 rfl 0 rfl ?_
                          obtain ⟨b3, q3, e3, hO3, hq3, hr3⟩ := optP_t h0 (stop := 0) (md := 5) (p := q2 + 1) (by decide) (by omega) htp; rw [hO3] at hQ; cases b3
                          · skip
                            refine z_callVW (pc := 98) (q0 := 0) (ci := 3) (rest := []) F (c_X3_readSum l E r rt rp S ST SP tp sx (q2 + 1) G2 o2 l2 r2 (nI (sx 0 - 48)) (nI dv) f0 f1 f2 ((false, q3, e3) : zRs) ht (by omega) (by omega) hho2 hO3) 0 ww_Reader_48 (by decide +kernel) rfl ⟨Nat.le_of_ble_eq_true rfl, Nat.le_of_ble_eq_true rfl⟩ ⟨Nat.le_of_ble_eq_true rfl, Nat.le_of_ble_eq_true rfl⟩ rfl rfl rfl rfl (Nat.le_of_ble_eq_true rfl) dX3_read_98 (fun v_ w1_ hp => ?_)
                            obtain ⟨x3, G3, o3, l3, r3, f3, rfl, rfl, hho3, hf3⟩ := hp
                            show Z X (0) (0) (rdw E r (rt 0) (.ref (rp 0)) (mrd S (nI ((false, q3, e3) : zRs).2.1)) ++ tpw E rt ST ++ plw E rp (mpq SP (nI G3.length) o3 l3 r3 (nI (sx 0 - 48)) (nI dv) f0 f1 f2 f3)) [(0, .ref (r 0)), (1, .ref (rp 0))] 101 [.int (bI x3)]
                            show Z X (0) (0) (rdw E r (rt 0) (.ref (rp 0)) (mrd S (nI q3)) ++ tpw E rt ST ++ plw E rp (mpq SP (nI G3.length) o3 l3 r3 (nI (sx 0 - 48)) (nI dv) f0 f1 f2 f3)) [(0, .ref (r 0)), (1, .ref (rp 0))] 101 [.int (bI x3)]
                            obtain ⟨hln3, -, hv3⟩ := hf3; rcases hv3 rfl with hv3 | hv3
                            · subst hv3
                              show Z X (0) (0) (rdw E r (rt 0) (.ref (rp 0)) (mrd S (nI q3)) ++ tpw E rt ST ++ plw E rp (mpq SP (nI G3.length) o3 l3 r3 (nI (sx 0 - 48)) (nI dv) f0 f1 f2 f3)) [(0, .ref (r 0)), (1, .ref (rp 0))] 101 [.int 0]
                              refine z_if_eq (pc := 101) (tgt := 115) F dX3_read_101 (by decide) (fun _ => ?_) (fun h => absurd h (by decide))
                              refine z_iconst (pc := 115) (v := 0) F dX3_read_115 (by decide) ?_
                              refine z_istore_n (pc := 116) (lv' := [(0, .ref (r 0)), (1, .ref (rp 0)), (2, .int 0)]) F dX3_read_116 rfl (by decide) [1, 2, 0] rfl ?_
                              refine z_iload_n (pc := 117) F dX3_read_117 rfl 2 rfl ?_
                              refine z_if_eq (pc := 118) (tgt := 125) F dX3_read_118 (by decide) (fun _ => ?_) (fun h => absurd h (by decide))
                              refine z_aload_n (pc := 125) F dX3_read_125 rfl 0 rfl ?_
                              refine z_get (pc := 126) (v := .int (nI q3)) F iX3 0 rfl rfl 2 (by decide) tw_149 rfl dX3_read_126 ?_
                              exact z_iret (pc := 129) F hR dX3_read_129 (Nat.le_of_ble_eq_true rfl) (Nat.le_of_ble_eq_true rfl) (by cases hQ; exact ⟨_, _, G3, _, _, _, _, _, _, _, _, _, rfl, rfl, fun _ => rfl, fun h => Bool.noConfusion h⟩)
                            · obtain ⟨hx3, hd3⟩ := hv3; subst hx3
                              replace hd3 : isD (sx q3) = true := hd3
                              show Z X (0) (0) (rdw E r (rt 0) (.ref (rp 0)) (mrd S (nI q3)) ++ tpw E rt ST ++ plw E rp (mpq SP (nI G3.length) o3 l3 r3 (nI (sx 0 - 48)) (nI dv) f0 f1 f2 f3)) [(0, .ref (r 0)), (1, .ref (rp 0))] 101 [.int 1]
                              refine z_if_eq (pc := 101) (tgt := 115) F dX3_read_101 (by decide) (fun h => absurd h (by decide)) (fun _ => ?_)
                              refine z_aload_n (pc := 104) F dX3_read_104 rfl 0 rfl ?_
                              refine z_callVW (pc := 105) (q0 := 0) (ci := 3) (rest := []) F (c_X3_peek l E r rt rp S ST (mpq SP (nI G3.length) o3 l3 r3 (nI (sx 0 - 48)) (nI dv) f0 f1 f2 f3) tp sx q3 ht (by omega)) 0 ww_Reader_51 (by decide +kernel) rfl ⟨Nat.le_of_ble_eq_true rfl, Nat.le_of_ble_eq_true rfl⟩ ⟨Nat.le_of_ble_eq_true rfl, Nat.le_of_ble_eq_true rfl⟩ rfl rfl rfl rfl (Nat.le_of_ble_eq_true rfl) dX3_read_105 (fun v_ w1_ hp => ?_)
                              obtain ⟨rfl, rfl⟩ := hp
                              show Z X (0) (0) (rdw E r (rt 0) (.ref (rp 0)) (mrd S (nI q3)) ++ tpw E rt ST ++ plw E rp (mpq SP (nI G3.length) o3 l3 r3 (nI (sx 0 - 48)) (nI dv) f0 f1 f2 f3)) [(0, .ref (r 0)), (1, .ref (rp 0))] 108 [.int (nI (sx q3))]
                              refine z_if_ne (pc := 108) (tgt := 115) F dX3_read_108 (by decide) (fun c108 => ?_) (fun c108 => absurd c108 (fun h => isD_ne hd3 (by decide) (nIe (b := 0) (by have := hsx q3; omega) (by decide) h)))
                              have k108 : ¬ sx q3 = 0 := fun h => c108 (by rw [h]; rfl)
                              refine z_iconst (pc := 115) (v := 0) F dX3_read_115 (by decide) ?_
                              refine z_istore_n (pc := 116) (lv' := [(0, .ref (r 0)), (1, .ref (rp 0)), (2, .int 0)]) F dX3_read_116 rfl (by decide) [1, 2, 0] rfl ?_
                              refine z_iload_n (pc := 117) F dX3_read_117 rfl 2 rfl ?_
                              refine z_if_eq (pc := 118) (tgt := 125) F dX3_read_118 (by decide) (fun _ => ?_) (fun h => absurd h (by decide))
                              refine z_aload_n (pc := 125) F dX3_read_125 rfl 0 rfl ?_
                              refine z_get (pc := 126) (v := .int (nI q3)) F iX3 0 rfl rfl 2 (by decide) tw_149 rfl dX3_read_126 ?_
                              exact z_iret (pc := 129) F hR dX3_read_129 (Nat.le_of_ble_eq_true rfl) (Nat.le_of_ble_eq_true rfl) (by cases hQ; exact ⟨_, _, G3, _, _, _, _, _, _, _, _, _, rfl, rfl, fun _ => rfl, fun h => Bool.noConfusion h⟩)
                          · skip
                            refine z_callVW (pc := 98) (q0 := 0) (ci := 3) (rest := []) F (c_X3_readSum l E r rt rp S ST SP tp sx (q2 + 1) G2 o2 l2 r2 (nI (sx 0 - 48)) (nI dv) f0 f1 f2 ((true, q3, e3) : zRs) ht (by omega) (by omega) hho2 hO3) 0 ww_Reader_48 (by decide +kernel) rfl ⟨Nat.le_of_ble_eq_true rfl, Nat.le_of_ble_eq_true rfl⟩ ⟨Nat.le_of_ble_eq_true rfl, Nat.le_of_ble_eq_true rfl⟩ rfl rfl rfl rfl (Nat.le_of_ble_eq_true rfl) dX3_read_98 (fun v_ w1_ hp => ?_)
                            obtain ⟨x3, G3, o3, l3, r3, f3, rfl, rfl, hho3, hf3⟩ := hp
                            show Z X (0) (0) (rdw E r (rt 0) (.ref (rp 0)) (mrd S (nI ((true, q3, e3) : zRs).2.1)) ++ tpw E rt ST ++ plw E rp (mpq SP (nI G3.length) o3 l3 r3 (nI (sx 0 - 48)) (nI dv) f0 f1 f2 f3)) [(0, .ref (r 0)), (1, .ref (rp 0))] 101 [.int (bI x3)]
                            show Z X (0) (0) (rdw E r (rt 0) (.ref (rp 0)) (mrd S (nI q3)) ++ tpw E rt ST ++ plw E rp (mpq SP (nI G3.length) o3 l3 r3 (nI (sx 0 - 48)) (nI dv) f0 f1 f2 f3)) [(0, .ref (r 0)), (1, .ref (rp 0))] 101 [.int (bI x3)]
                            obtain ⟨hln3, hv3, -⟩ := hf3; obtain ⟨hx3, hp3⟩ := hv3 rfl; subst hx3
                            · dsimp only [List.length_nil] at hln3 hp3
                              show Z X (0) (0) (rdw E r (rt 0) (.ref (rp 0)) (mrd S (nI q3)) ++ tpw E rt ST ++ plw E rp (mpq SP (nI G3.length) o3 l3 r3 (nI (sx 0 - 48)) (nI dv) f0 f1 f2 f3)) [(0, .ref (r 0)), (1, .ref (rp 0))] 101 [.int 1]
                              refine z_if_eq (pc := 101) (tgt := 115) F dX3_read_101 (by decide) (fun h => absurd h (by decide)) (fun _ => ?_)
                              rw [show pq (some (true, q3, e3)) (fun p c3 => rq4 sx p dv e0 e1 e2 c3) = rq4 sx q3 dv e0 e1 e2 e3 from rfl, rq4] at hQ
                              refine z_aload_n (pc := 104) F dX3_read_104 rfl 0 rfl ?_
                              refine z_callVW (pc := 105) (q0 := 0) (ci := 3) (rest := []) F (c_X3_peek l E r rt rp S ST (mpq SP (nI G3.length) o3 l3 r3 (nI (sx 0 - 48)) (nI dv) f0 f1 f2 f3) tp sx q3 ht (by omega)) 0 ww_Reader_51 (by decide +kernel) rfl ⟨Nat.le_of_ble_eq_true rfl, Nat.le_of_ble_eq_true rfl⟩ ⟨Nat.le_of_ble_eq_true rfl, Nat.le_of_ble_eq_true rfl⟩ rfl rfl rfl rfl (Nat.le_of_ble_eq_true rfl) dX3_read_105 (fun v_ w1_ hp => ?_)
                              obtain ⟨rfl, rfl⟩ := hp
                              show Z X (0) (0) (rdw E r (rt 0) (.ref (rp 0)) (mrd S (nI q3)) ++ tpw E rt ST ++ plw E rp (mpq SP (nI G3.length) o3 l3 r3 (nI (sx 0 - 48)) (nI dv) f0 f1 f2 f3)) [(0, .ref (r 0)), (1, .ref (rp 0))] 108 [.int (nI (sx q3))]
                              refine z_if_ne (pc := 108) (tgt := 115) F dX3_read_108 (by decide) (fun c108 => ?_) (fun c108 => ?_)
                              · have k108 : ¬ sx q3 = 0 := fun h => c108 (by rw [h]; rfl)
                                refine z_iconst (pc := 115) (v := 0) F dX3_read_115 (by decide) ?_
                                refine z_istore_n (pc := 116) (lv' := [(0, .ref (r 0)), (1, .ref (rp 0)), (2, .int 0)]) F dX3_read_116 rfl (by decide) [1, 2, 0] rfl ?_
                                refine z_iload_n (pc := 117) F dX3_read_117 rfl 2 rfl ?_
                                refine z_if_eq (pc := 118) (tgt := 125) F dX3_read_118 (by decide) (fun _ => ?_) (fun h => absurd h (by decide))
                                refine z_aload_n (pc := 125) F dX3_read_125 rfl 0 rfl ?_
                                refine z_get (pc := 126) (v := .int (nI q3)) F iX3 0 rfl rfl 2 (by decide) tw_149 rfl dX3_read_126 ?_
                                exact z_iret (pc := 129) F hR dX3_read_129 (Nat.le_of_ble_eq_true rfl) (Nat.le_of_ble_eq_true rfl) (by rw [decide_eq_false k108] at hQ; cases hQ; exact ⟨_, _, G3, _, _, _, _, _, _, _, _, _, rfl, rfl, fun _ => rfl, fun h => Bool.noConfusion h⟩)
                              · have k108 : sx q3 = 0 := nIe (b := 0) (by have := hsx q3; omega) (by decide) c108
                                refine z_iconst (pc := 111) (v := 1) F dX3_read_111 (by decide) ?_
                                refine z_goto (pc := 112) (tgt := 116) F dX3_read_112 (by decide) ?_
                                refine z_istore_n (pc := 116) (lv' := [(0, .ref (r 0)), (1, .ref (rp 0)), (2, .int 1)]) F dX3_read_116 rfl (by decide) [1, 2, 0] rfl ?_
                                refine z_iload_n (pc := 117) F dX3_read_117 rfl 2 rfl ?_
                                refine z_if_eq (pc := 118) (tgt := 125) F dX3_read_118 (by decide) (fun h => absurd h (by decide)) (fun _ => ?_)
                                refine z_iconst (pc := 121) (v := (-1)) F dX3_read_121 (by decide) ?_
                                refine z_goto (pc := 122) (tgt := 129) F dX3_read_122 (by decide) ?_
                                exact z_iret (pc := 129) F hR dX3_read_129 (Nat.le_of_ble_eq_true rfl) (Nat.le_of_ble_eq_true rfl) (by rw [decide_eq_true k108] at hQ; cases hQ; exact ⟨_, _, G3, o3, l3, r3, _, _, _, _, _, _, rfl, rfl, fun h => Bool.noConfusion h, fun _ => ⟨rfl, hho3, e0, e1, e2, e3, G0, G1, G2, rfl, hp0, hp1, hp2, hp3, by omega, rfl, rfl⟩⟩)
                        · rw [show pq (some (true, q2, e2)) (fun p c2 => rq3 sx 1000 p dv e0 e1 c2) = rq3 sx 1000 q2 dv e0 e1 e2 from rfl, rq3, if_neg kp2] at hQ
                          refine z_callVW (pc := 91) (q0 := 0) (ci := 3) (rest := []) F (c_X3_pass_n l E r rt rp S ST (mpq SP (nI G2.length) o2 l2 r2 (nI (sx 0 - 48)) (nI dv) f0 f1 f2 (-1)) tp sx q2 59 ht (by omega) (by decide) kp2) 1 ww_Reader_32 (by decide +kernel) rfl ⟨Nat.le_of_ble_eq_true rfl, Nat.le_of_ble_eq_true rfl⟩ ⟨Nat.le_of_ble_eq_true rfl, Nat.le_of_ble_eq_true rfl⟩ rfl rfl rfl rfl (Nat.le_of_ble_eq_true rfl) dX3_read_91 (fun v_ w1_ hp => ?_)
                          obtain ⟨rfl, rfl⟩ := hp
                          show Z X (0) (0) (rdw E r (rt 0) (.ref (rp 0)) (mrd S (nI q2)) ++ tpw E rt ST ++ plw E rp (mpq SP (nI G2.length) o2 l2 r2 (nI (sx 0 - 48)) (nI dv) f0 f1 f2 (-1))) [(0, .ref (r 0)), (1, .ref (rp 0))] 94 [.int (bI false)]
                          rw [show (bI false) = 0 from rfl]
                          refine z_if_eq (pc := 94) (tgt := 115) F dX3_read_94 (by decide) (fun _ => ?_) (fun h => absurd h (by decide))
                          refine z_iconst (pc := 115) (v := 0) F dX3_read_115 (by decide) ?_
                          refine z_istore_n (pc := 116) (lv' := [(0, .ref (r 0)), (1, .ref (rp 0)), (2, .int 0)]) F dX3_read_116 rfl (by decide) [1, 2, 0] rfl ?_
                          refine z_iload_n (pc := 117) F dX3_read_117 rfl 2 rfl ?_
                          refine z_if_eq (pc := 118) (tgt := 125) F dX3_read_118 (by decide) (fun _ => ?_) (fun h => absurd h (by decide))
                          refine z_aload_n (pc := 125) F dX3_read_125 rfl 0 rfl ?_
                          refine z_get (pc := 126) (v := .int (nI q2)) F iX3 0 rfl rfl 2 (by decide) tw_149 rfl dX3_read_126 ?_
                          exact z_iret (pc := 129) F hR dX3_read_129 (Nat.le_of_ble_eq_true rfl) (Nat.le_of_ble_eq_true rfl) (by cases hQ; exact ⟨_, _, G2, _, _, _, _, _, _, _, _, _, rfl, rfl, fun _ => rfl, fun h => Bool.noConfusion h⟩)
                  · rw [rq2, if_neg kpL] at hQ
                    refine z_callVW (pc := 75) (q0 := 0) (ci := 3) (rest := []) F (c_X3_pass_n l E r rt rp S ST (mpq SP (nI G1.length) o1 l1 r1 (nI (sx 0 - 48)) (nI dv) f0 f1 (-1) (-1)) tp sx dp 59 ht (by omega) (by decide) kpL) 1 ww_Reader_32 (by decide +kernel) rfl ⟨Nat.le_of_ble_eq_true rfl, Nat.le_of_ble_eq_true rfl⟩ ⟨Nat.le_of_ble_eq_true rfl, Nat.le_of_ble_eq_true rfl⟩ rfl rfl rfl rfl (Nat.le_of_ble_eq_true rfl) dX3_read_75 (fun v_ w1_ hp => ?_)
                    obtain ⟨rfl, rfl⟩ := hp
                    show Z X (0) (0) (rdw E r (rt 0) (.ref (rp 0)) (mrd S (nI dp)) ++ tpw E rt ST ++ plw E rp (mpq SP (nI G1.length) o1 l1 r1 (nI (sx 0 - 48)) (nI dv) f0 f1 (-1) (-1))) [(0, .ref (r 0)), (1, .ref (rp 0))] 78 [.int (bI false)]
                    rw [show (bI false) = 0 from rfl]
                    refine z_if_eq (pc := 78) (tgt := 115) F dX3_read_78 (by decide) (fun _ => ?_) (fun h => absurd h (by decide))
                    refine z_iconst (pc := 115) (v := 0) F dX3_read_115 (by decide) ?_
                    refine z_istore_n (pc := 116) (lv' := [(0, .ref (r 0)), (1, .ref (rp 0)), (2, .int 0)]) F dX3_read_116 rfl (by decide) [1, 2, 0] rfl ?_
                    refine z_iload_n (pc := 117) F dX3_read_117 rfl 2 rfl ?_
                    refine z_if_eq (pc := 118) (tgt := 125) F dX3_read_118 (by decide) (fun _ => ?_) (fun h => absurd h (by decide))
                    refine z_aload_n (pc := 125) F dX3_read_125 rfl 0 rfl ?_
                    refine z_get (pc := 126) (v := .int (nI dp)) F iX3 0 rfl rfl 2 (by decide) tw_149 rfl dX3_read_126 ?_
                    exact z_iret (pc := 129) F hR dX3_read_129 (Nat.le_of_ble_eq_true rfl) (Nat.le_of_ble_eq_true rfl) (by cases hQ; exact ⟨_, _, G1, _, _, _, _, _, _, _, _, _, rfl, rfl, fun _ => rfl, fun h => Bool.noConfusion h⟩)
                · rw [show pq (some (true, q1, e1)) (fun p c1 => rq1 sx 1000 p e0 c1) = rq1 sx 1000 q1 e0 e1 from rfl, rq1, if_neg kp1] at hQ
                  refine z_callVW (pc := 59) (q0 := 0) (ci := 3) (rest := []) F (c_X3_pass_n l E r rt rp S ST (mpq SP (nI G1.length) o1 l1 r1 (nI (sx 0 - 48)) (zi SP 2) f0 f1 (-1) (-1)) tp sx q1 59 ht (by omega) (by decide) kp1) 1 ww_Reader_32 (by decide +kernel) rfl ⟨Nat.le_of_ble_eq_true rfl, Nat.le_of_ble_eq_true rfl⟩ ⟨Nat.le_of_ble_eq_true rfl, Nat.le_of_ble_eq_true rfl⟩ rfl rfl rfl rfl (Nat.le_of_ble_eq_true rfl) dX3_read_59 (fun v_ w1_ hp => ?_)
                  obtain ⟨rfl, rfl⟩ := hp
                  show Z X (0) (0) (rdw E r (rt 0) (.ref (rp 0)) (mrd S (nI q1)) ++ tpw E rt ST ++ plw E rp (mpq SP (nI G1.length) o1 l1 r1 (nI (sx 0 - 48)) (zi SP 2) f0 f1 (-1) (-1))) [(0, .ref (r 0)), (1, .ref (rp 0))] 62 [.int (bI false)]
                  rw [show (bI false) = 0 from rfl]
                  refine z_if_eq (pc := 62) (tgt := 115) F dX3_read_62 (by decide) (fun _ => ?_) (fun h => absurd h (by decide))
                  refine z_iconst (pc := 115) (v := 0) F dX3_read_115 (by decide) ?_
                  refine z_istore_n (pc := 116) (lv' := [(0, .ref (r 0)), (1, .ref (rp 0)), (2, .int 0)]) F dX3_read_116 rfl (by decide) [1, 2, 0] rfl ?_
                  refine z_iload_n (pc := 117) F dX3_read_117 rfl 2 rfl ?_
                  refine z_if_eq (pc := 118) (tgt := 125) F dX3_read_118 (by decide) (fun _ => ?_) (fun h => absurd h (by decide))
                  refine z_aload_n (pc := 125) F dX3_read_125 rfl 0 rfl ?_
                  refine z_get (pc := 126) (v := .int (nI q1)) F iX3 0 rfl rfl 2 (by decide) tw_149 rfl dX3_read_126 ?_
                  exact z_iret (pc := 129) F hR dX3_read_129 (Nat.le_of_ble_eq_true rfl) (Nat.le_of_ble_eq_true rfl) (by cases hQ; exact ⟨_, _, G1, _, _, _, _, _, _, _, _, _, rfl, rfl, fun _ => rfl, fun h => Bool.noConfusion h⟩)
          · rw [show pq (some (true, q0, e0)) (fun p c0 => rq0 sx 1000 p c0) = rq0 sx 1000 q0 e0 from rfl, rq0, if_neg kp0] at hQ
            refine z_callVW (pc := 43) (q0 := 0) (ci := 3) (rest := []) F (c_X3_pass_n l E r rt rp S ST (mpq SP (nI G0.length) o0 l0 r0 (nI (sx 0 - 48)) (zi SP 2) f0 (-1) (-1) (-1)) tp sx q0 59 ht (by omega) (by decide) kp0) 1 ww_Reader_32 (by decide +kernel) rfl ⟨Nat.le_of_ble_eq_true rfl, Nat.le_of_ble_eq_true rfl⟩ ⟨Nat.le_of_ble_eq_true rfl, Nat.le_of_ble_eq_true rfl⟩ rfl rfl rfl rfl (Nat.le_of_ble_eq_true rfl) dX3_read_43 (fun v_ w1_ hp => ?_)
            obtain ⟨rfl, rfl⟩ := hp
            show Z X (0) (0) (rdw E r (rt 0) (.ref (rp 0)) (mrd S (nI q0)) ++ tpw E rt ST ++ plw E rp (mpq SP (nI G0.length) o0 l0 r0 (nI (sx 0 - 48)) (zi SP 2) f0 (-1) (-1) (-1))) [(0, .ref (r 0)), (1, .ref (rp 0))] 46 [.int (bI false)]
            rw [show (bI false) = 0 from rfl]
            refine z_if_eq (pc := 46) (tgt := 115) F dX3_read_46 (by decide) (fun _ => ?_) (fun h => absurd h (by decide))
            refine z_iconst (pc := 115) (v := 0) F dX3_read_115 (by decide) ?_
            refine z_istore_n (pc := 116) (lv' := [(0, .ref (r 0)), (1, .ref (rp 0)), (2, .int 0)]) F dX3_read_116 rfl (by decide) [1, 2, 0] rfl ?_
            refine z_iload_n (pc := 117) F dX3_read_117 rfl 2 rfl ?_
            refine z_if_eq (pc := 118) (tgt := 125) F dX3_read_118 (by decide) (fun _ => ?_) (fun h => absurd h (by decide))
            refine z_aload_n (pc := 125) F dX3_read_125 rfl 0 rfl ?_
            refine z_get (pc := 126) (v := .int (nI q0)) F iX3 0 rfl rfl 2 (by decide) tw_149 rfl dX3_read_126 ?_
            exact z_iret (pc := 129) F hR dX3_read_129 (Nat.le_of_ble_eq_true rfl) (Nat.le_of_ble_eq_true rfl) (by cases hQ; exact ⟨_, _, G0, _, _, _, _, _, _, _, _, _, rfl, rfl, fun _ => rfl, fun h => Bool.noConfusion h⟩)
    · rw [if_neg kpK] at hQ
      refine z_callVW (pc := 27) (q0 := 0) (ci := 3) (rest := []) F (c_X3_pass_n l E r rt rp S ST (mpq SP (nI ([] : List zNd).length) (za SP 1) (za SP 2) (za SP 3) (nI (sx 0 - 48)) (zi SP 2) (-1) (-1) (-1) (-1)) tp sx (0 + 1) 58 ht (by omega) (by decide) kpK) 1 ww_Reader_32 (by decide +kernel) rfl ⟨Nat.le_of_ble_eq_true rfl, Nat.le_of_ble_eq_true rfl⟩ ⟨Nat.le_of_ble_eq_true rfl, Nat.le_of_ble_eq_true rfl⟩ rfl rfl rfl rfl (Nat.le_of_ble_eq_true rfl) dX3_read_27 (fun v_ w1_ hp => ?_)
      obtain ⟨rfl, rfl⟩ := hp
      show Z X (0) (0) (rdw E r (rt 0) (.ref (rp 0)) (mrd S (nI (0 + 1))) ++ tpw E rt ST ++ plw E rp (mpq SP (nI ([] : List zNd).length) (za SP 1) (za SP 2) (za SP 3) (nI (sx 0 - 48)) (zi SP 2) (-1) (-1) (-1) (-1))) [(0, .ref (r 0)), (1, .ref (rp 0))] 30 [.int (bI false)]
      rw [show (bI false) = 0 from rfl]
      refine z_if_eq (pc := 30) (tgt := 115) F dX3_read_30 (by decide) (fun _ => ?_) (fun h => absurd h (by decide))
      refine z_iconst (pc := 115) (v := 0) F dX3_read_115 (by decide) ?_
      refine z_istore_n (pc := 116) (lv' := [(0, .ref (r 0)), (1, .ref (rp 0)), (2, .int 0)]) F dX3_read_116 rfl (by decide) [1, 2, 0] rfl ?_
      refine z_iload_n (pc := 117) F dX3_read_117 rfl 2 rfl ?_
      refine z_if_eq (pc := 118) (tgt := 125) F dX3_read_118 (by decide) (fun _ => ?_) (fun h => absurd h (by decide))
      refine z_aload_n (pc := 125) F dX3_read_125 rfl 0 rfl ?_
      refine z_get (pc := 126) (v := .int (nI (0 + 1))) F iX3 0 rfl rfl 2 (by decide) tw_149 rfl dX3_read_126 ?_
      exact z_iret (pc := 129) F hR dX3_read_129 (Nat.le_of_ble_eq_true rfl) (Nat.le_of_ble_eq_true rfl) (by cases hQ; exact ⟨_, _, ([] : List zNd), _, _, _, _, _, _, _, _, _, rfl, rfl, fun _ => rfl, fun h => Bool.noConfusion h⟩)
  · rw [rq, if_neg hK] at hQ
    refine z_callVW (pc := 18) (q0 := 0) (ci := 3) (rest := []) F (c_X3_readKind_n l E r rt rp S ST SP tp sx 0 ([] : List zNd) (za SP 1) (za SP 2) (za SP 3) (zi SP 1) (zi SP 2) (-1) (-1) (-1) (-1) ht (by omega) hK) 0 ww_Reader_28 (by decide +kernel) rfl ⟨Nat.le_of_ble_eq_true rfl, Nat.le_of_ble_eq_true rfl⟩ ⟨Nat.le_of_ble_eq_true rfl, Nat.le_of_ble_eq_true rfl⟩ rfl rfl rfl rfl (Nat.le_of_ble_eq_true rfl) dX3_read_18 (fun v_ w1_ hp => ?_)
    obtain ⟨rfl, rfl⟩ := hp
    show Z X (0) (0) (rdw E r (rt 0) (.ref (rp 0)) (mrd S (nI 0)) ++ tpw E rt ST ++ plw E rp (mpq SP (nI ([] : List zNd).length) (za SP 1) (za SP 2) (za SP 3) (zi SP 1) (zi SP 2) (-1) (-1) (-1) (-1))) [(0, .ref (r 0)), (1, .ref (rp 0))] 21 [.int 0]
    refine z_if_eq (pc := 21) (tgt := 115) F dX3_read_21 (by decide) (fun _ => ?_) (fun h => absurd h (by decide))
    refine z_iconst (pc := 115) (v := 0) F dX3_read_115 (by decide) ?_
    refine z_istore_n (pc := 116) (lv' := [(0, .ref (r 0)), (1, .ref (rp 0)), (2, .int 0)]) F dX3_read_116 rfl (by decide) [1, 2, 0] rfl ?_
    refine z_iload_n (pc := 117) F dX3_read_117 rfl 2 rfl ?_
    refine z_if_eq (pc := 118) (tgt := 125) F dX3_read_118 (by decide) (fun _ => ?_) (fun h => absurd h (by decide))
    refine z_aload_n (pc := 125) F dX3_read_125 rfl 0 rfl ?_
    refine z_get (pc := 126) (v := .int (nI 0)) F iX3 0 rfl rfl 2 (by decide) tw_149 rfl dX3_read_126 ?_
    exact z_iret (pc := 129) F hR dX3_read_129 (Nat.le_of_ble_eq_true rfl) (Nat.le_of_ble_eq_true rfl) (by cases hQ; exact ⟨_, _, ([] : List zNd), _, _, _, _, _, _, _, _, _, rfl, rfl, fun _ => rfl, fun h => Bool.noConfusion h⟩)

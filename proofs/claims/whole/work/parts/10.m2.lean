/-! the reference's stack machine -/
def mst (S : zS) (hh ab : Int32) (f : Nat → Int64) (hg : Nat → Int32) : zS := (fun i => if i = 5 then hh else if i = 6 then ab else S.1 i, S.2.1, fun i => if i = 16 then hg else S.2.2.1 i, fun i => if i = 15 then f else S.2.2.2 i)
def rk (op : Nat) (x y : Int64) : Int64 := if op = 10 then x + y else if op = 11 then x - y else if op = 12 then x * y else if op = 13 then (if y = 0 then 0 else if y = -1 then -x else x / y) else if op = 14 then (if y = 0 then 0 else if y = -1 then 0 else x - x / y * y) else if op = 15 then (if x = y then 1 else 0) else if op = 16 then (if x = y then 0 else 1) else if op = 17 then (if x < y then 1 else 0) else if op = 18 then (if y < x then 1 else 0) else if op = 19 then x * y else (if 0 < x + y then 1 else 0)
def rkA (op : Nat) (y : Int64) (ab : Int32) : Int32 := if (op = 13 ∨ op = 14) ∧ y = 0 then 1 else ab
theorem lN_i32 {j : Nat} : (lN j).toInt32 = nI j := lN_i j
theorem ix3 {o p : Nat} (e : 3 ≤ p) : 3 * nI o + nI p - 3 = nI (3 * o + p - 3) := by
  rw [show (3 : Int32) = nI 3 from rfl, pk_mul, nI_add, pk_sub (by omega)]
theorem ix8 {o p : Nat} : 8 * nI o + nI p = nI (8 * o + p) := by
  rw [show (8 : Int32) = nI 8 from rfl, pk_mul, nI_add]
theorem lN_pos {p : Nat} (h : p < 2 ^ 31) : ¬ lN p < 0 := by
  rw [show (0 : Int64) = lN 0 from rfl, lN_lt h (by omega)]
  omega
theorem nI_nm {j : Nat} (h : j < 2 ^ 31) : ¬ nI j = -1 := by
  intro q
  have a := nI_toInt h
  rw [q] at a
  have : (-1 : Int32).toInt = -1 := by decide
  omega
set_option maxHeartbeats 4000000 in
set_option maxRecDepth 100000 in
theorem c_X8_push (l : Launch) (E : zE) (r : Nat → Nat) (S : zS) (h : Nat) (ab : Int32) (f : Nat → Int64) (hg : Nat → Int32) (v : Int64) (hh : h < 240) : Ct l yX8_push cX8_push 3 (none) ({ frames := 0, cells := 0, slots := 0, locals := 0 } : Room) E (mw E r (mst S (nI h) ab f hg)) [.ref (r 0), .long v] (fun v_ w_ => v_ = none ∧ w_ = mw E r (mst S (nI (h + 1)) ab (vp_updL f h v) hg)) := by
  refine Ct.of (by decide) (Nat.le_of_ble_eq_true rfl) (lv := [(0, .ref (r 0)), (1, .long v)]) rfl ?_
  intro X F hR
  have F : zF X l ({ frames := 0, cells := 0, slots := 0, locals := 0 } : Room) E cX8_push 3 "LiveQueriesModel" := F
  refine z_aload_n (pc := 0) F dX8_push_0 rfl 0 rfl ?_
  refine z_get (pc := 1) (v := .ref (r 15)) F iX8 0 rfl rfl 20 (by decide) tw_878 rfl dX8_push_1 ?_
  refine z_aload_n (pc := 4) F dX8_push_4 rfl 0 rfl ?_
  refine z_get (pc := 5) (v := .int (nI h)) F iX8 0 rfl rfl 19 (by decide) tw_877 rfl dX8_push_5 ?_
  refine z_lload_n (pc := 8) F dX8_push_8 rfl 1 rfl ?_
  refine z_lastN (pc := 9) (ws' := mw E r (mst S (nI h) ab (vp_updL f h v) hg)) (f := f) F 15 1 rfl rfl h rfl (by omega) (by decide) dX8_push_9 rfl ?_
  refine z_aload_n (pc := 10) F dX8_push_10 rfl 0 rfl ?_
  refine z_dup (pc := 11) F dX8_push_11 rfl ?_
  refine z_get (pc := 12) (v := .int (nI h)) F iX8 0 rfl rfl 19 (by decide) tw_877 rfl dX8_push_12 ?_
  refine z_iconst (pc := 15) (v := 1) F dX8_push_15 (by decide) ?_
  refine z_iadd (pc := 16) F dX8_push_16 ?_
  rw [show ((nI h) + 1) = nI (h + 1) from nI_1 h]
  refine z_put (pc := 17) (ws' := mw E r (mst S (nI (h + 1)) ab (vp_updL f h v) hg)) F iX8 tyX8 tyX8_ok nmX8 0 rfl rfl 19 (by decide) tw_877 rfl rfl rfl (Nat.le_of_ble_eq_true rfl) dX8_push_17 rfl ?_
  exact z_vret (pc := 20) F hR dX8_push_20 (Nat.le_of_ble_eq_true rfl) (Nat.le_of_ble_eq_true rfl) ⟨rfl, rfl⟩
set_option maxHeartbeats 4000000 in
set_option maxRecDepth 100000 in
theorem c_X8_pop (l : Launch) (E : zE) (r : Nat → Nat) (S : zS) (h : Nat) (ab : Int32) (f : Nat → Int64) (hg : Nat → Int32) (hh : h < 240) : Ct l yX8_pop cX8_pop 1 (some .long) ({ frames := 0, cells := 0, slots := 0, locals := 0 } : Room) E (mw E r (mst S (nI (h + 1)) ab f hg)) [.ref (r 0)] (fun v_ w_ => v_ = some (.long (f h)) ∧ w_ = mw E r (mst S (nI h) ab f hg)) := by
  refine Ct.of (by decide) (Nat.le_of_ble_eq_true rfl) (lv := [(0, .ref (r 0))]) rfl ?_
  intro X F hR
  have F : zF X l ({ frames := 0, cells := 0, slots := 0, locals := 0 } : Room) E cX8_pop 1 "LiveQueriesModel" := F
  refine z_aload_n (pc := 0) F dX8_pop_0 rfl 0 rfl ?_
  refine z_dup (pc := 1) F dX8_pop_1 rfl ?_
  refine z_get (pc := 2) (v := .int (nI (h + 1))) F iX8 0 rfl rfl 19 (by decide) tw_877 rfl dX8_pop_2 ?_
  refine z_iconst (pc := 5) (v := 1) F dX8_pop_5 (by decide) ?_
  refine z_isub (pc := 6) F dX8_pop_6 ?_
  rw [show ((nI (h + 1)) - 1) = nI h from nI_pred h]
  refine z_put (pc := 7) (ws' := mw E r (mst S (nI h) ab f hg)) F iX8 tyX8 tyX8_ok nmX8 0 rfl rfl 19 (by decide) tw_877 rfl rfl rfl (Nat.le_of_ble_eq_true rfl) dX8_pop_7 rfl ?_
  refine z_aload_n (pc := 10) F dX8_pop_10 rfl 0 rfl ?_
  refine z_get (pc := 11) (v := .ref (r 15)) F iX8 0 rfl rfl 20 (by decide) tw_878 rfl dX8_pop_11 ?_
  refine z_aload_n (pc := 14) F dX8_pop_14 rfl 0 rfl ?_
  refine z_get (pc := 15) (v := .int (nI h)) F iX8 0 rfl rfl 19 (by decide) tw_877 rfl dX8_pop_15 ?_
  refine z_laldN (pc := 18) (f := f) F 15 1 rfl rfl h rfl (by omega) (by decide) dX8_pop_18 ?_
  exact z_lret (pc := 19) F hR dX8_pop_19 (Nat.le_of_ble_eq_true rfl) (Nat.le_of_ble_eq_true rfl) ⟨rfl, rfl⟩
set_option maxHeartbeats 4000000 in
set_option maxRecDepth 100000 in
theorem c_X8_looked_n (l : Launch) (E : zE) (r : Nat → Nat) (S : zS) (h : Nat) (ab : Int32) (f : Nat → Int64) (hg : Nat → Int32) (hh : h < 240) (hv : f h = -1) : Ct l yX8_looked cX8_looked 2 (some .int) ({ frames := 1, cells := 0, slots := 0, locals := 20 } : Room) E (mw E r (mst S (nI (h + 1)) ab f hg)) [.ref (r 0)] (fun v_ w_ => v_ = some (.int (-1)) ∧ w_ = mw E r (mst S (nI h) 1 f hg)) := by
  refine Ct.of (by decide) (Nat.le_of_ble_eq_true rfl) (lv := [(0, .ref (r 0))]) rfl ?_
  intro X F hR
  have F : zF X l ({ frames := 1, cells := 0, slots := 0, locals := 20 } : Room) E cX8_looked 2 "LiveQueriesModel" := F
  refine z_aload_n (pc := 0) F dX8_looked_0 rfl 0 rfl ?_
  refine z_callVW (pc := 1) (q0 := 0) (ci := 8) (rest := []) F (c_X8_pop l E r S h ab f hg (by first | assumption | rfl | omega)) 0 ww_Model_104 (by decide +kernel) rfl ⟨Nat.le_of_ble_eq_true rfl, Nat.le_of_ble_eq_true rfl⟩ ⟨Nat.le_of_ble_eq_true rfl, Nat.le_of_ble_eq_true rfl⟩ rfl rfl rfl rfl (Nat.le_of_ble_eq_true rfl) dX8_looked_1 (fun v_ w1_ hp => ?_)
  obtain ⟨rfl, rfl⟩ := hp
  show Z X (0) (0) (mw E r (mst S (nI h) ab f hg)) [(0, .ref (r 0))] 4 [.long (f h)]
  rw [show (f h) = (-1 : Int64) from hv]
  refine z_l2i (pc := 4) F dX8_looked_4 ?_
  rw [show ((-1 : Int64).toInt32) = (-1) from (by decide)]
  refine z_istore_n (pc := 5) (lv' := [(0, .ref (r 0)), (1, .int (-1))]) F dX8_looked_5 rfl (by decide) [1, 0] rfl ?_
  refine z_iload_n (pc := 6) F dX8_looked_6 rfl 1 rfl ?_
  refine z_iconst (pc := 7) (v := (-1)) F dX8_looked_7 (by decide) ?_
  refine z_icmp_ne (pc := 8) (tgt := 19) F dX8_looked_8 (by decide) (fun h => absurd h (by decide)) (fun _ => ?_)
  refine z_aload_n (pc := 11) F dX8_looked_11 rfl 0 rfl ?_
  refine z_iconst (pc := 12) (v := 1) F dX8_looked_12 (by decide) ?_
  refine z_put (pc := 13) (ws' := mw E r (mst S (nI h) 1 f hg)) F iX8 tyX8 tyX8_ok nmX8 0 rfl rfl 21 (by decide) tw_879 rfl rfl rfl (Nat.le_of_ble_eq_true rfl) dX8_looked_13 rfl ?_
  refine z_goto (pc := 16) (tgt := 26) F dX8_looked_16 (by decide) ?_
  refine z_iload_n (pc := 26) F dX8_looked_26 rfl 1 rfl ?_
  exact z_iret (pc := 27) F hR dX8_looked_27 (Nat.le_of_ble_eq_true rfl) (Nat.le_of_ble_eq_true rfl) ⟨rfl, rfl⟩
set_option maxHeartbeats 4000000 in
set_option maxRecDepth 100000 in
theorem c_X8_looked_s (l : Launch) (E : zE) (r : Nat → Nat) (S : zS) (h : Nat) (ab : Int32) (f : Nat → Int64) (hg : Nat → Int32) (j : Nat) (hh : h < 240) (hv : f h = lN j) (hj : j < 60) : Ct l yX8_looked cX8_looked 2 (some .int) ({ frames := 1, cells := 0, slots := 0, locals := 20 } : Room) E (mw E r (mst S (nI (h + 1)) ab f hg)) [.ref (r 0)] (fun v_ w_ => v_ = some (.int (nI j)) ∧ w_ = mw E r (mst S (nI h) ab f (upd hg j 1))) := by
  refine Ct.of (by decide) (Nat.le_of_ble_eq_true rfl) (lv := [(0, .ref (r 0))]) rfl ?_
  intro X F hR
  have F : zF X l ({ frames := 1, cells := 0, slots := 0, locals := 20 } : Room) E cX8_looked 2 "LiveQueriesModel" := F
  refine z_aload_n (pc := 0) F dX8_looked_0 rfl 0 rfl ?_
  refine z_callVW (pc := 1) (q0 := 0) (ci := 8) (rest := []) F (c_X8_pop l E r S h ab f hg (by first | assumption | rfl | omega)) 0 ww_Model_104 (by decide +kernel) rfl ⟨Nat.le_of_ble_eq_true rfl, Nat.le_of_ble_eq_true rfl⟩ ⟨Nat.le_of_ble_eq_true rfl, Nat.le_of_ble_eq_true rfl⟩ rfl rfl rfl rfl (Nat.le_of_ble_eq_true rfl) dX8_looked_1 (fun v_ w1_ hp => ?_)
  obtain ⟨rfl, rfl⟩ := hp
  show Z X (0) (0) (mw E r (mst S (nI h) ab f hg)) [(0, .ref (r 0))] 4 [.long (f h)]
  rw [show (f h) = lN j from hv]
  refine z_l2i (pc := 4) F dX8_looked_4 ?_
  rw [show ((lN j).toInt32) = nI j from lN_i32]
  refine z_istore_n (pc := 5) (lv' := [(0, .ref (r 0)), (1, .int (nI j))]) F dX8_looked_5 rfl (by decide) [1, 0] rfl ?_
  refine z_iload_n (pc := 6) F dX8_looked_6 rfl 1 rfl ?_
  refine z_iconst (pc := 7) (v := (-1)) F dX8_looked_7 (by decide) ?_
  refine z_icmp_ne (pc := 8) (tgt := 19) F dX8_looked_8 (by decide) (fun c8 => ?_) (fun c8 => absurd c8 (nI_nm (by omega)))
  refine z_aload_n (pc := 19) F dX8_looked_19 rfl 0 rfl ?_
  refine z_get (pc := 20) (v := .ref (r 16)) F iX8 0 rfl rfl 22 (by decide) tw_880 rfl dX8_looked_20 ?_
  refine z_iload_n (pc := 23) F dX8_looked_23 rfl 1 rfl ?_
  refine z_iconst (pc := 24) (v := 1) F dX8_looked_24 (by decide) ?_
  refine z_zastN (pc := 25) (ws' := mw E r (mst S (nI h) ab f (upd hg j 1))) (f := hg) F 16 2 rfl rfl j rfl (by omega) (by decide) rfl dX8_looked_25 rfl ?_
  refine z_iload_n (pc := 26) F dX8_looked_26 rfl 1 rfl ?_
  exact z_iret (pc := 27) F hR dX8_looked_27 (Nat.le_of_ble_eq_true rfl) (Nat.le_of_ble_eq_true rfl) ⟨rfl, rfl⟩
set_option maxHeartbeats 4000000 in
set_option maxRecDepth 100000 in
theorem c_X8_reckon (l : Launch) (E : zE) (r : Nat → Nat) (S : zS) (hh : Int32) (ab : Int32) (f : Nat → Int64) (hg : Nat → Int32) (op : Nat) (x : Int64) (y : Int64) (ho : 10 ≤ op) (hp : op ≤ 20) : Ct l yX8_reckon cX8_reckon 6 (some .long) ({ frames := 0, cells := 0, slots := 0, locals := 0 } : Room) E (mw E r (mst S hh ab f hg)) [.ref (r 0), .int (nI op), .long x, .long y] (fun v_ w_ => v_ = some (.long (rk op x y)) ∧ w_ = mw E r (mst S hh (rkA op y ab) f hg)) := by
  refine Ct.of (by decide) (Nat.le_of_ble_eq_true rfl) (lv := [(0, .ref (r 0)), (1, .int (nI op)), (2, .long x), (4, .long y)]) rfl ?_
  intro X F hR
  have F : zF X l ({ frames := 0, cells := 0, slots := 0, locals := 0 } : Room) E cX8_reckon 6 "LiveQueriesModel" := F
  refine z_iload_n (pc := 0) F dX8_reckon_0 rfl 1 rfl ?_
  rcases (show op = 10 ∨ op = 11 ∨ op = 12 ∨ op = 13 ∨ op = 14 ∨ op = 15 ∨ op = 16 ∨ op = 17 ∨ op = 18 ∨ op = 19 ∨ op = 20 by omega) with rfl | rfl | rfl | rfl | rfl | rfl | rfl | rfl | rfl | rfl | rfl
  · refine z_tableIn (off := 55) (tgt := 56) (pc := 1) F dX8_reckon_1 (by decide) (by decide) (by decide) (by decide) ?_
    refine z_lload_n (pc := 56) F dX8_reckon_56 rfl 2 rfl ?_
    refine z_lload (pc := 57) F dX8_reckon_57 3 rfl ?_
    refine z_ladd (pc := 59) F dX8_reckon_59 ?_
    exact z_lret (pc := 60) F hR dX8_reckon_60 (Nat.le_of_ble_eq_true rfl) (Nat.le_of_ble_eq_true rfl) ⟨by simp_all [rk], by simp_all [rkA]⟩
  · refine z_tableIn (off := 60) (tgt := 61) (pc := 1) F dX8_reckon_1 (by decide) (by decide) (by decide) (by decide) ?_
    refine z_lload_n (pc := 61) F dX8_reckon_61 rfl 2 rfl ?_
    refine z_lload (pc := 62) F dX8_reckon_62 3 rfl ?_
    refine z_lsub (pc := 64) F dX8_reckon_64 ?_
    exact z_lret (pc := 65) F hR dX8_reckon_65 (Nat.le_of_ble_eq_true rfl) (Nat.le_of_ble_eq_true rfl) ⟨by simp_all [rk], by simp_all [rkA]⟩
  · refine z_tableIn (off := 65) (tgt := 66) (pc := 1) F dX8_reckon_1 (by decide) (by decide) (by decide) (by decide) ?_
    refine z_lload_n (pc := 66) F dX8_reckon_66 rfl 2 rfl ?_
    refine z_lload (pc := 67) F dX8_reckon_67 3 rfl ?_
    refine z_lmul (pc := 69) F dX8_reckon_69 ?_
    exact z_lret (pc := 70) F hR dX8_reckon_70 (Nat.le_of_ble_eq_true rfl) (Nat.le_of_ble_eq_true rfl) ⟨by simp_all [rk], by simp_all [rkA]⟩
  · refine z_tableIn (off := 70) (tgt := 71) (pc := 1) F dX8_reckon_1 (by decide) (by decide) (by decide) (by decide) ?_
    refine z_lload (pc := 71) F dX8_reckon_71 3 rfl ?_
    refine z_lconst (pc := 73) (v := 0) F dX8_reckon_73 (by decide) ?_
    refine z_l_ne (pc := 74) (tgt := 83) F dX8_reckon_74 dX8_reckon_75 (by decide) (fun c74 => ?_) (fun c74 => ?_)
    · refine z_lload (pc := 83) F dX8_reckon_83 3 rfl ?_
      refine z_lconst (pc := 85) (v := 0) F dX8_reckon_85 (by decide) ?_
      refine z_l_ne (pc := 86) (tgt := 94) F dX8_reckon_86 dX8_reckon_87 (by decide) (fun c86 => ?_) (fun c86 => ?_)
      · refine z_lload (pc := 94) F dX8_reckon_94 3 rfl ?_
        refine z_ldc2 (pc := 96) F dX8_reckon_96 tw_1012 ?_
        refine z_l_ne (pc := 99) (tgt := 118) F dX8_reckon_99 dX8_reckon_100 (by decide) (fun c99 => ?_) (fun c99 => ?_)
        · refine z_iload_n (pc := 118) F dX8_reckon_118 rfl 1 rfl ?_
          refine z_bipush (pc := 119) (v := 13) F dX8_reckon_119 (by decide) ?_
          refine z_icmp_ne (pc := 121) (tgt := 131) F dX8_reckon_121 (by decide) (fun h => absurd h (by decide)) (fun _ => ?_)
          refine z_lload_n (pc := 124) F dX8_reckon_124 rfl 2 rfl ?_
          refine z_lload (pc := 125) F dX8_reckon_125 3 rfl ?_
          refine z_ldiv (pc := 127) F dX8_reckon_127 c86 ?_
          refine z_goto (pc := 128) (tgt := 135) F dX8_reckon_128 (by decide) ?_
          exact z_lret (pc := 135) F hR dX8_reckon_135 (Nat.le_of_ble_eq_true rfl) (Nat.le_of_ble_eq_true rfl) ⟨by simp_all [rk], by simp_all [rkA]⟩
        · refine z_iload_n (pc := 103) F dX8_reckon_103 rfl 1 rfl ?_
          refine z_bipush (pc := 104) (v := 13) F dX8_reckon_104 (by decide) ?_
          refine z_icmp_ne (pc := 106) (tgt := 114) F dX8_reckon_106 (by decide) (fun h => absurd h (by decide)) (fun _ => ?_)
          refine z_lload_n (pc := 109) F dX8_reckon_109 rfl 2 rfl ?_
          refine z_lneg (pc := 110) F dX8_reckon_110 ?_
          refine z_goto (pc := 111) (tgt := 135) F dX8_reckon_111 (by decide) ?_
          exact z_lret (pc := 135) F hR dX8_reckon_135 (Nat.le_of_ble_eq_true rfl) (Nat.le_of_ble_eq_true rfl) ⟨by simp_all [rk], by simp_all [rkA]⟩
      · refine z_lconst (pc := 90) (v := 0) F dX8_reckon_90 (by decide) ?_
        refine z_goto (pc := 91) (tgt := 135) F dX8_reckon_91 (by decide) ?_
        exact z_lret (pc := 135) F hR dX8_reckon_135 (Nat.le_of_ble_eq_true rfl) (Nat.le_of_ble_eq_true rfl) ⟨by simp_all [rk], by simp_all [rkA]⟩
    · refine z_aload_n (pc := 78) F dX8_reckon_78 rfl 0 rfl ?_
      refine z_iconst (pc := 79) (v := 1) F dX8_reckon_79 (by decide) ?_
      refine z_put (pc := 80) (ws' := mw E r (mst S hh 1 f hg)) F iX8 tyX8 tyX8_ok nmX8 0 rfl rfl 21 (by decide) tw_879 rfl rfl rfl (Nat.le_of_ble_eq_true rfl) dX8_reckon_80 rfl ?_
      refine z_lload (pc := 83) F dX8_reckon_83 3 rfl ?_
      refine z_lconst (pc := 85) (v := 0) F dX8_reckon_85 (by decide) ?_
      refine z_l_ne (pc := 86) (tgt := 94) F dX8_reckon_86 dX8_reckon_87 (by decide) (fun c86 => ?_) (fun c86 => ?_)
      · refine z_lload (pc := 94) F dX8_reckon_94 3 rfl ?_
        refine z_ldc2 (pc := 96) F dX8_reckon_96 tw_1012 ?_
        refine z_l_ne (pc := 99) (tgt := 118) F dX8_reckon_99 dX8_reckon_100 (by decide) (fun c99 => ?_) (fun c99 => ?_)
        · refine z_iload_n (pc := 118) F dX8_reckon_118 rfl 1 rfl ?_
          refine z_bipush (pc := 119) (v := 13) F dX8_reckon_119 (by decide) ?_
          refine z_icmp_ne (pc := 121) (tgt := 131) F dX8_reckon_121 (by decide) (fun h => absurd h (by decide)) (fun _ => ?_)
          refine z_lload_n (pc := 124) F dX8_reckon_124 rfl 2 rfl ?_
          refine z_lload (pc := 125) F dX8_reckon_125 3 rfl ?_
          refine z_ldiv (pc := 127) F dX8_reckon_127 c86 ?_
          refine z_goto (pc := 128) (tgt := 135) F dX8_reckon_128 (by decide) ?_
          exact z_lret (pc := 135) F hR dX8_reckon_135 (Nat.le_of_ble_eq_true rfl) (Nat.le_of_ble_eq_true rfl) ⟨by simp_all [rk], by simp_all [rkA]⟩
        · refine z_iload_n (pc := 103) F dX8_reckon_103 rfl 1 rfl ?_
          refine z_bipush (pc := 104) (v := 13) F dX8_reckon_104 (by decide) ?_
          refine z_icmp_ne (pc := 106) (tgt := 114) F dX8_reckon_106 (by decide) (fun h => absurd h (by decide)) (fun _ => ?_)
          refine z_lload_n (pc := 109) F dX8_reckon_109 rfl 2 rfl ?_
          refine z_lneg (pc := 110) F dX8_reckon_110 ?_
          refine z_goto (pc := 111) (tgt := 135) F dX8_reckon_111 (by decide) ?_
          exact z_lret (pc := 135) F hR dX8_reckon_135 (Nat.le_of_ble_eq_true rfl) (Nat.le_of_ble_eq_true rfl) ⟨by simp_all [rk], by simp_all [rkA]⟩
      · refine z_lconst (pc := 90) (v := 0) F dX8_reckon_90 (by decide) ?_
        refine z_goto (pc := 91) (tgt := 135) F dX8_reckon_91 (by decide) ?_
        exact z_lret (pc := 135) F hR dX8_reckon_135 (Nat.le_of_ble_eq_true rfl) (Nat.le_of_ble_eq_true rfl) ⟨by simp_all [rk], by simp_all [rkA]⟩
  · refine z_tableIn (off := 70) (tgt := 71) (pc := 1) F dX8_reckon_1 (by decide) (by decide) (by decide) (by decide) ?_
    refine z_lload (pc := 71) F dX8_reckon_71 3 rfl ?_
    refine z_lconst (pc := 73) (v := 0) F dX8_reckon_73 (by decide) ?_
    refine z_l_ne (pc := 74) (tgt := 83) F dX8_reckon_74 dX8_reckon_75 (by decide) (fun c74 => ?_) (fun c74 => ?_)
    · refine z_lload (pc := 83) F dX8_reckon_83 3 rfl ?_
      refine z_lconst (pc := 85) (v := 0) F dX8_reckon_85 (by decide) ?_
      refine z_l_ne (pc := 86) (tgt := 94) F dX8_reckon_86 dX8_reckon_87 (by decide) (fun c86 => ?_) (fun c86 => ?_)
      · refine z_lload (pc := 94) F dX8_reckon_94 3 rfl ?_
        refine z_ldc2 (pc := 96) F dX8_reckon_96 tw_1012 ?_
        refine z_l_ne (pc := 99) (tgt := 118) F dX8_reckon_99 dX8_reckon_100 (by decide) (fun c99 => ?_) (fun c99 => ?_)
        · refine z_iload_n (pc := 118) F dX8_reckon_118 rfl 1 rfl ?_
          refine z_bipush (pc := 119) (v := 13) F dX8_reckon_119 (by decide) ?_
          refine z_icmp_ne (pc := 121) (tgt := 131) F dX8_reckon_121 (by decide) (fun _ => ?_) (fun h => absurd h (by decide))
          refine z_lload_n (pc := 131) F dX8_reckon_131 rfl 2 rfl ?_
          refine z_lload (pc := 132) F dX8_reckon_132 3 rfl ?_
          refine z_lrem (pc := 134) F dX8_reckon_134 c86 ?_
          exact z_lret (pc := 135) F hR dX8_reckon_135 (Nat.le_of_ble_eq_true rfl) (Nat.le_of_ble_eq_true rfl) ⟨by simp_all [rk], by simp_all [rkA]⟩
        · refine z_iload_n (pc := 103) F dX8_reckon_103 rfl 1 rfl ?_
          refine z_bipush (pc := 104) (v := 13) F dX8_reckon_104 (by decide) ?_
          refine z_icmp_ne (pc := 106) (tgt := 114) F dX8_reckon_106 (by decide) (fun _ => ?_) (fun h => absurd h (by decide))
          refine z_lconst (pc := 114) (v := 0) F dX8_reckon_114 (by decide) ?_
          refine z_goto (pc := 115) (tgt := 135) F dX8_reckon_115 (by decide) ?_
          exact z_lret (pc := 135) F hR dX8_reckon_135 (Nat.le_of_ble_eq_true rfl) (Nat.le_of_ble_eq_true rfl) ⟨by simp_all [rk], by simp_all [rkA]⟩
      · refine z_lconst (pc := 90) (v := 0) F dX8_reckon_90 (by decide) ?_
        refine z_goto (pc := 91) (tgt := 135) F dX8_reckon_91 (by decide) ?_
        exact z_lret (pc := 135) F hR dX8_reckon_135 (Nat.le_of_ble_eq_true rfl) (Nat.le_of_ble_eq_true rfl) ⟨by simp_all [rk], by simp_all [rkA]⟩
    · refine z_aload_n (pc := 78) F dX8_reckon_78 rfl 0 rfl ?_
      refine z_iconst (pc := 79) (v := 1) F dX8_reckon_79 (by decide) ?_
      refine z_put (pc := 80) (ws' := mw E r (mst S hh 1 f hg)) F iX8 tyX8 tyX8_ok nmX8 0 rfl rfl 21 (by decide) tw_879 rfl rfl rfl (Nat.le_of_ble_eq_true rfl) dX8_reckon_80 rfl ?_
      refine z_lload (pc := 83) F dX8_reckon_83 3 rfl ?_
      refine z_lconst (pc := 85) (v := 0) F dX8_reckon_85 (by decide) ?_
      refine z_l_ne (pc := 86) (tgt := 94) F dX8_reckon_86 dX8_reckon_87 (by decide) (fun c86 => ?_) (fun c86 => ?_)
      · refine z_lload (pc := 94) F dX8_reckon_94 3 rfl ?_
        refine z_ldc2 (pc := 96) F dX8_reckon_96 tw_1012 ?_
        refine z_l_ne (pc := 99) (tgt := 118) F dX8_reckon_99 dX8_reckon_100 (by decide) (fun c99 => ?_) (fun c99 => ?_)
        · refine z_iload_n (pc := 118) F dX8_reckon_118 rfl 1 rfl ?_
          refine z_bipush (pc := 119) (v := 13) F dX8_reckon_119 (by decide) ?_
          refine z_icmp_ne (pc := 121) (tgt := 131) F dX8_reckon_121 (by decide) (fun _ => ?_) (fun h => absurd h (by decide))
          refine z_lload_n (pc := 131) F dX8_reckon_131 rfl 2 rfl ?_
          refine z_lload (pc := 132) F dX8_reckon_132 3 rfl ?_
          refine z_lrem (pc := 134) F dX8_reckon_134 c86 ?_
          exact z_lret (pc := 135) F hR dX8_reckon_135 (Nat.le_of_ble_eq_true rfl) (Nat.le_of_ble_eq_true rfl) ⟨by simp_all [rk], by simp_all [rkA]⟩
        · refine z_iload_n (pc := 103) F dX8_reckon_103 rfl 1 rfl ?_
          refine z_bipush (pc := 104) (v := 13) F dX8_reckon_104 (by decide) ?_
          refine z_icmp_ne (pc := 106) (tgt := 114) F dX8_reckon_106 (by decide) (fun _ => ?_) (fun h => absurd h (by decide))
          refine z_lconst (pc := 114) (v := 0) F dX8_reckon_114 (by decide) ?_
          refine z_goto (pc := 115) (tgt := 135) F dX8_reckon_115 (by decide) ?_
          exact z_lret (pc := 135) F hR dX8_reckon_135 (Nat.le_of_ble_eq_true rfl) (Nat.le_of_ble_eq_true rfl) ⟨by simp_all [rk], by simp_all [rkA]⟩
      · refine z_lconst (pc := 90) (v := 0) F dX8_reckon_90 (by decide) ?_
        refine z_goto (pc := 91) (tgt := 135) F dX8_reckon_91 (by decide) ?_
        exact z_lret (pc := 135) F hR dX8_reckon_135 (Nat.le_of_ble_eq_true rfl) (Nat.le_of_ble_eq_true rfl) ⟨by simp_all [rk], by simp_all [rkA]⟩
  · refine z_tableIn (off := 135) (tgt := 136) (pc := 1) F dX8_reckon_1 (by decide) (by decide) (by decide) (by decide) ?_
    refine z_lload_n (pc := 136) F dX8_reckon_136 rfl 2 rfl ?_
    refine z_lload (pc := 137) F dX8_reckon_137 3 rfl ?_
    refine z_l_ne (pc := 139) (tgt := 147) F dX8_reckon_139 dX8_reckon_140 (by decide) (fun c139 => ?_) (fun c139 => ?_)
    · refine z_lconst (pc := 147) (v := 0) F dX8_reckon_147 (by decide) ?_
      exact z_lret (pc := 148) F hR dX8_reckon_148 (Nat.le_of_ble_eq_true rfl) (Nat.le_of_ble_eq_true rfl) ⟨by simp_all [rk], by simp_all [rkA]⟩
    · refine z_lconst (pc := 143) (v := 1) F dX8_reckon_143 (by decide) ?_
      refine z_goto (pc := 144) (tgt := 148) F dX8_reckon_144 (by decide) ?_
      exact z_lret (pc := 148) F hR dX8_reckon_148 (Nat.le_of_ble_eq_true rfl) (Nat.le_of_ble_eq_true rfl) ⟨by simp_all [rk], by simp_all [rkA]⟩
  · refine z_tableIn (off := 148) (tgt := 149) (pc := 1) F dX8_reckon_1 (by decide) (by decide) (by decide) (by decide) ?_
    refine z_lload_n (pc := 149) F dX8_reckon_149 rfl 2 rfl ?_
    refine z_lload (pc := 150) F dX8_reckon_150 3 rfl ?_
    refine z_l_eq (pc := 152) (tgt := 160) F dX8_reckon_152 dX8_reckon_153 (by decide) (fun c152 => ?_) (fun c152 => ?_)
    · refine z_lconst (pc := 160) (v := 0) F dX8_reckon_160 (by decide) ?_
      exact z_lret (pc := 161) F hR dX8_reckon_161 (Nat.le_of_ble_eq_true rfl) (Nat.le_of_ble_eq_true rfl) ⟨by simp_all [rk], by simp_all [rkA]⟩
    · refine z_lconst (pc := 156) (v := 1) F dX8_reckon_156 (by decide) ?_
      refine z_goto (pc := 157) (tgt := 161) F dX8_reckon_157 (by decide) ?_
      exact z_lret (pc := 161) F hR dX8_reckon_161 (Nat.le_of_ble_eq_true rfl) (Nat.le_of_ble_eq_true rfl) ⟨by simp_all [rk], by simp_all [rkA]⟩
  · refine z_tableIn (off := 161) (tgt := 162) (pc := 1) F dX8_reckon_1 (by decide) (by decide) (by decide) (by decide) ?_
    refine z_lload_n (pc := 162) F dX8_reckon_162 rfl 2 rfl ?_
    refine z_lload (pc := 163) F dX8_reckon_163 3 rfl ?_
    refine z_l_ge (pc := 165) (tgt := 173) F dX8_reckon_165 dX8_reckon_166 (by decide) (fun c165 => ?_) (fun c165 => ?_)
    · refine z_lconst (pc := 173) (v := 0) F dX8_reckon_173 (by decide) ?_
      exact z_lret (pc := 174) F hR dX8_reckon_174 (Nat.le_of_ble_eq_true rfl) (Nat.le_of_ble_eq_true rfl) ⟨by simp_all [rk], by simp_all [rkA]⟩
    · refine z_lconst (pc := 169) (v := 1) F dX8_reckon_169 (by decide) ?_
      refine z_goto (pc := 170) (tgt := 174) F dX8_reckon_170 (by decide) ?_
      exact z_lret (pc := 174) F hR dX8_reckon_174 (Nat.le_of_ble_eq_true rfl) (Nat.le_of_ble_eq_true rfl) ⟨by simp_all [rk], by simp_all [rkA]⟩
  · refine z_tableIn (off := 174) (tgt := 175) (pc := 1) F dX8_reckon_1 (by decide) (by decide) (by decide) (by decide) ?_
    refine z_lload_n (pc := 175) F dX8_reckon_175 rfl 2 rfl ?_
    refine z_lload (pc := 176) F dX8_reckon_176 3 rfl ?_
    refine z_l_le (pc := 178) (tgt := 186) F dX8_reckon_178 dX8_reckon_179 (by decide) (fun c178 => ?_) (fun c178 => ?_)
    · refine z_lconst (pc := 186) (v := 0) F dX8_reckon_186 (by decide) ?_
      exact z_lret (pc := 187) F hR dX8_reckon_187 (Nat.le_of_ble_eq_true rfl) (Nat.le_of_ble_eq_true rfl) ⟨by simp_all [rk], by simp_all [rkA]⟩
    · refine z_lconst (pc := 182) (v := 1) F dX8_reckon_182 (by decide) ?_
      refine z_goto (pc := 183) (tgt := 187) F dX8_reckon_183 (by decide) ?_
      exact z_lret (pc := 187) F hR dX8_reckon_187 (Nat.le_of_ble_eq_true rfl) (Nat.le_of_ble_eq_true rfl) ⟨by simp_all [rk], by simp_all [rkA]⟩
  · refine z_tableIn (off := 187) (tgt := 188) (pc := 1) F dX8_reckon_1 (by decide) (by decide) (by decide) (by decide) ?_
    refine z_lload_n (pc := 188) F dX8_reckon_188 rfl 2 rfl ?_
    refine z_lload (pc := 189) F dX8_reckon_189 3 rfl ?_
    refine z_lmul (pc := 191) F dX8_reckon_191 ?_
    exact z_lret (pc := 192) F hR dX8_reckon_192 (Nat.le_of_ble_eq_true rfl) (Nat.le_of_ble_eq_true rfl) ⟨by simp_all [rk], by simp_all [rkA]⟩
  · refine z_tableOut (tgt := 193) (pc := 1) F dX8_reckon_1 (by decide) (by decide) ?_
    refine z_lload_n (pc := 193) F dX8_reckon_193 rfl 2 rfl ?_
    refine z_lload (pc := 194) F dX8_reckon_194 3 rfl ?_
    refine z_ladd (pc := 196) F dX8_reckon_196 ?_
    refine z_lconst (pc := 197) (v := 0) F dX8_reckon_197 (by decide) ?_
    refine z_l_le (pc := 198) (tgt := 206) F dX8_reckon_198 dX8_reckon_199 (by decide) (fun c198 => ?_) (fun c198 => ?_)
    · refine z_lconst (pc := 206) (v := 0) F dX8_reckon_206 (by decide) ?_
      exact z_lret (pc := 207) F hR dX8_reckon_207 (Nat.le_of_ble_eq_true rfl) (Nat.le_of_ble_eq_true rfl) ⟨by simp_all [rk], by simp_all [rkA]⟩
    · refine z_lconst (pc := 202) (v := 1) F dX8_reckon_202 (by decide) ?_
      refine z_goto (pc := 203) (tgt := 207) F dX8_reckon_203 (by decide) ?_
      exact z_lret (pc := 207) F hR dX8_reckon_207 (Nat.le_of_ble_eq_true rfl) (Nat.le_of_ble_eq_true rfl) ⟨by simp_all [rk], by simp_all [rkA]⟩
set_option maxHeartbeats 4000000 in
set_option maxRecDepth 100000 in
theorem c_X8_act_0 (l : Launch) (E : zE) (r : Nat → Nat) (S : zS) (h : Nat) (ab : Int32) (f : Nat → Int64) (hg : Nat → Int32) (ro : Nat) (k : Nat) (hh : h < 238) (hk : k < 1440) (hro : ro < 60) (hc : za S 11 k = nI 0) : Ct l yX8_act cX8_act 9 (none) ({ frames := 2, cells := 0, slots := 0, locals := 60 } : Room) E (mw E r (mst S (nI h) ab f hg)) [.ref (r 0), .int (nI ro), .int (nI k)] (fun v_ w_ => v_ = none ∧ w_ = mw E r (mst S (nI (h + 1)) ab (vp_updL f h (za S 12 k).toInt64) hg)) := by
  refine Ct.of (by decide) (Nat.le_of_ble_eq_true rfl) (lv := [(0, .ref (r 0)), (1, .int (nI ro)), (2, .int (nI k))]) rfl ?_
  intro X F hR
  have F : zF X l ({ frames := 2, cells := 0, slots := 0, locals := 60 } : Room) E cX8_act 9 "LiveQueriesModel" := F
  refine z_aload_n (pc := 0) F dX8_act_0 rfl 0 rfl ?_
  refine z_get (pc := 1) (v := .ref (r 11)) F iX8 0 rfl rfl 14 (by decide) tw_872 rfl dX8_act_1 ?_
  refine z_iload_n (pc := 4) F dX8_act_4 rfl 2 rfl ?_
  refine z_ialdN (pc := 5) (f := za S 11) F 11 0 rfl rfl k rfl (by omega) (by decide) dX8_act_5 ?_
  rw [show (za S 11 k) = nI 0 from hc]
  refine z_istore_n (pc := 6) (lv' := [(0, .ref (r 0)), (1, .int (nI ro)), (2, .int (nI k)), (3, .int (nI 0))]) F dX8_act_6 rfl (by decide) [1, 2, 3, 0] rfl ?_
  refine z_iload_n (pc := 7) F dX8_act_7 rfl 3 rfl ?_
  · refine z_tableIn (off := 104) (tgt := 112) (pc := 8) F dX8_act_8 (by decide) (by decide) (by decide) (by decide) ?_
    refine z_aload_n (pc := 112) F dX8_act_112 rfl 0 rfl ?_
    refine z_aload_n (pc := 113) F dX8_act_113 rfl 0 rfl ?_
    refine z_get (pc := 114) (v := .ref (r 12)) F iX8 0 rfl rfl 15 (by decide) tw_873 rfl dX8_act_114 ?_
    refine z_iload_n (pc := 117) F dX8_act_117 rfl 2 rfl ?_
    refine z_ialdN (pc := 118) (f := za S 12) F 12 0 rfl rfl k rfl (by omega) (by decide) dX8_act_118 ?_
    refine z_i2l (pc := 119) F dX8_act_119 ?_
    refine z_callVW (pc := 120) (q0 := 0) (ci := 8) (rest := []) F (c_X8_push l E r S h ab f hg ((za S 12 k).toInt64) (by first | assumption | rfl | omega)) 1 ww_Model_112 (by decide +kernel) rfl ⟨Nat.le_of_ble_eq_true rfl, Nat.le_of_ble_eq_true rfl⟩ ⟨Nat.le_of_ble_eq_true rfl, Nat.le_of_ble_eq_true rfl⟩ rfl rfl rfl rfl (Nat.le_of_ble_eq_true rfl) dX8_act_120 (fun v_ w1_ hp => ?_)
    obtain ⟨rfl, rfl⟩ := hp
    show Z X (0) (0) (mw E r (mst S (nI (h + 1)) ab (vp_updL f h ((za S 12 k).toInt64)) hg)) [(0, .ref (r 0)), (1, .int (nI ro)), (2, .int (nI k)), (3, .int (nI 0))] 123 []
    refine z_goto (pc := 123) (tgt := 416) F dX8_act_123 (by decide) ?_
    exact z_vret (pc := 416) F hR dX8_act_416 (Nat.le_of_ble_eq_true rfl) (Nat.le_of_ble_eq_true rfl) ⟨rfl, rfl⟩
set_option maxHeartbeats 4000000 in
set_option maxRecDepth 100000 in
theorem c_X8_act_1 (l : Launch) (E : zE) (r : Nat → Nat) (S : zS) (h : Nat) (ab : Int32) (f : Nat → Int64) (hg : Nat → Int32) (ro : Nat) (k : Nat) (hh : h < 238) (hk : k < 1440) (hro : ro < 60) (hc : za S 11 k = nI 1) : Ct l yX8_act cX8_act 9 (none) ({ frames := 2, cells := 0, slots := 0, locals := 60 } : Room) E (mw E r (mst S (nI h) ab f hg)) [.ref (r 0), .int (nI ro), .int (nI k)] (fun v_ w_ => v_ = none ∧ w_ = mw E r (mst S (nI (h + 1)) ab (vp_updL f h (lN ro)) hg)) := by
  refine Ct.of (by decide) (Nat.le_of_ble_eq_true rfl) (lv := [(0, .ref (r 0)), (1, .int (nI ro)), (2, .int (nI k))]) rfl ?_
  intro X F hR
  have F : zF X l ({ frames := 2, cells := 0, slots := 0, locals := 60 } : Room) E cX8_act 9 "LiveQueriesModel" := F
  refine z_aload_n (pc := 0) F dX8_act_0 rfl 0 rfl ?_
  refine z_get (pc := 1) (v := .ref (r 11)) F iX8 0 rfl rfl 14 (by decide) tw_872 rfl dX8_act_1 ?_
  refine z_iload_n (pc := 4) F dX8_act_4 rfl 2 rfl ?_
  refine z_ialdN (pc := 5) (f := za S 11) F 11 0 rfl rfl k rfl (by omega) (by decide) dX8_act_5 ?_
  rw [show (za S 11 k) = nI 1 from hc]
  refine z_istore_n (pc := 6) (lv' := [(0, .ref (r 0)), (1, .int (nI ro)), (2, .int (nI k)), (3, .int (nI 1))]) F dX8_act_6 rfl (by decide) [1, 2, 3, 0] rfl ?_
  refine z_iload_n (pc := 7) F dX8_act_7 rfl 3 rfl ?_
  · refine z_tableIn (off := 118) (tgt := 126) (pc := 8) F dX8_act_8 (by decide) (by decide) (by decide) (by decide) ?_
    refine z_aload_n (pc := 126) F dX8_act_126 rfl 0 rfl ?_
    refine z_iload_n (pc := 127) F dX8_act_127 rfl 1 rfl ?_
    refine z_i2l (pc := 128) F dX8_act_128 ?_
    rw [show ((nI ro).toInt64) = lN ro from (nI_l (by omega))]
    refine z_callVW (pc := 129) (q0 := 0) (ci := 8) (rest := []) F (c_X8_push l E r S h ab f hg (lN ro) (by first | assumption | rfl | omega)) 1 ww_Model_112 (by decide +kernel) rfl ⟨Nat.le_of_ble_eq_true rfl, Nat.le_of_ble_eq_true rfl⟩ ⟨Nat.le_of_ble_eq_true rfl, Nat.le_of_ble_eq_true rfl⟩ rfl rfl rfl rfl (Nat.le_of_ble_eq_true rfl) dX8_act_129 (fun v_ w1_ hp => ?_)
    obtain ⟨rfl, rfl⟩ := hp
    show Z X (0) (0) (mw E r (mst S (nI (h + 1)) ab (vp_updL f h (lN ro)) hg)) [(0, .ref (r 0)), (1, .int (nI ro)), (2, .int (nI k)), (3, .int (nI 1))] 132 []
    refine z_goto (pc := 132) (tgt := 416) F dX8_act_132 (by decide) ?_
    exact z_vret (pc := 416) F hR dX8_act_416 (Nat.le_of_ble_eq_true rfl) (Nat.le_of_ble_eq_true rfl) ⟨rfl, rfl⟩
set_option maxHeartbeats 4000000 in
set_option maxRecDepth 100000 in
theorem c_X8_act_2n (l : Launch) (E : zE) (r : Nat → Nat) (S : zS) (h : Nat) (ab : Int32) (f : Nat → Int64) (hg : Nat → Int32) (ro : Nat) (k : Nat) (hh : h < 238) (hk : k < 1440) (hro : ro < 60) (hc : za S 11 k = nI 2) (hv : f h = -1) : Ct l yX8_act cX8_act 9 (none) ({ frames := 2, cells := 0, slots := 0, locals := 60 } : Room) E (mw E r (mst S (nI (h + 1)) ab f hg)) [.ref (r 0), .int (nI ro), .int (nI k)] (fun v_ w_ => v_ = none ∧ w_ = mw E r (mst S (nI (h + 1)) 1 (vp_updL f h (-1)) hg)) := by
  refine Ct.of (by decide) (Nat.le_of_ble_eq_true rfl) (lv := [(0, .ref (r 0)), (1, .int (nI ro)), (2, .int (nI k))]) rfl ?_
  intro X F hR
  have F : zF X l ({ frames := 2, cells := 0, slots := 0, locals := 60 } : Room) E cX8_act 9 "LiveQueriesModel" := F
  refine z_aload_n (pc := 0) F dX8_act_0 rfl 0 rfl ?_
  refine z_get (pc := 1) (v := .ref (r 11)) F iX8 0 rfl rfl 14 (by decide) tw_872 rfl dX8_act_1 ?_
  refine z_iload_n (pc := 4) F dX8_act_4 rfl 2 rfl ?_
  refine z_ialdN (pc := 5) (f := za S 11) F 11 0 rfl rfl k rfl (by omega) (by decide) dX8_act_5 ?_
  rw [show (za S 11 k) = nI 2 from hc]
  refine z_istore_n (pc := 6) (lv' := [(0, .ref (r 0)), (1, .int (nI ro)), (2, .int (nI k)), (3, .int (nI 2))]) F dX8_act_6 rfl (by decide) [1, 2, 3, 0] rfl ?_
  refine z_iload_n (pc := 7) F dX8_act_7 rfl 3 rfl ?_
  · refine z_tableIn (off := 127) (tgt := 135) (pc := 8) F dX8_act_8 (by decide) (by decide) (by decide) (by decide) ?_
    refine z_aload_n (pc := 135) F dX8_act_135 rfl 0 rfl ?_
    refine z_callVW (pc := 136) (q0 := 0) (ci := 8) (rest := []) F (c_X8_looked_n l E r S h ab f hg (by first | assumption | rfl | omega) (by first | assumption | rfl | omega)) 0 ww_Model_116 (by decide +kernel) rfl ⟨Nat.le_of_ble_eq_true rfl, Nat.le_of_ble_eq_true rfl⟩ ⟨Nat.le_of_ble_eq_true rfl, Nat.le_of_ble_eq_true rfl⟩ rfl rfl rfl rfl (Nat.le_of_ble_eq_true rfl) dX8_act_136 (fun v_ w1_ hp => ?_)
    obtain ⟨rfl, rfl⟩ := hp
    show Z X (0) (0) (mw E r (mst S (nI h) 1 f hg)) [(0, .ref (r 0)), (1, .int (nI ro)), (2, .int (nI k)), (3, .int (nI 2))] 139 [.int (-1)]
    refine z_istore (pc := 139) (lv' := [(0, .ref (r 0)), (1, .int (nI ro)), (2, .int (nI k)), (3, .int (nI 2)), (4, .int (-1))]) F dX8_act_139 (by decide) [1, 2, 3, 4, 0] rfl ?_
    refine z_aload_n (pc := 141) F dX8_act_141 rfl 0 rfl ?_
    refine z_iload (pc := 142) F dX8_act_142 4 rfl ?_
    refine z_iconst (pc := 144) (v := (-1)) F dX8_act_144 (by decide) ?_
    refine z_icmp_eq (pc := 145) (tgt := 185) F dX8_act_145 (by decide) (fun _ => ?_) (fun h => absurd h (by decide))
    refine z_ldc2 (pc := 185) F dX8_act_185 tw_1012 ?_
    refine z_callVW (pc := 188) (q0 := 0) (ci := 8) (rest := []) F (c_X8_push l E r S h 1 f hg (-1) (by first | assumption | rfl | omega)) 1 ww_Model_112 (by decide +kernel) rfl ⟨Nat.le_of_ble_eq_true rfl, Nat.le_of_ble_eq_true rfl⟩ ⟨Nat.le_of_ble_eq_true rfl, Nat.le_of_ble_eq_true rfl⟩ rfl rfl rfl rfl (Nat.le_of_ble_eq_true rfl) dX8_act_188 (fun v_ w1_ hp => ?_)
    obtain ⟨rfl, rfl⟩ := hp
    show Z X (0) (0) (mw E r (mst S (nI (h + 1)) 1 (vp_updL f h (-1)) hg)) [(0, .ref (r 0)), (1, .int (nI ro)), (2, .int (nI k)), (3, .int (nI 2)), (4, .int (-1))] 191 []
    refine z_goto (pc := 191) (tgt := 416) F dX8_act_191 (by decide) ?_
    exact z_vret (pc := 416) F hR dX8_act_416 (Nat.le_of_ble_eq_true rfl) (Nat.le_of_ble_eq_true rfl) ⟨rfl, rfl⟩
set_option maxHeartbeats 4000000 in
set_option maxRecDepth 100000 in
theorem c_X8_act_2a (l : Launch) (E : zE) (r : Nat → Nat) (S : zS) (h : Nat) (ab : Int32) (f : Nat → Int64) (hg : Nat → Int32) (ro : Nat) (k : Nat) (j : Nat) (hh : h < 238) (hk : k < 1440) (hro : ro < 60) (hc : za S 11 k = nI 2) (hv : f h = lN j) (hj : j < 60) (hr : za S 5 j = -1) : Ct l yX8_act cX8_act 9 (none) ({ frames := 2, cells := 0, slots := 0, locals := 60 } : Room) E (mw E r (mst S (nI (h + 1)) ab f hg)) [.ref (r 0), .int (nI ro), .int (nI k)] (fun v_ w_ => v_ = none ∧ w_ = mw E r (mst S (nI (h + 1)) ab (vp_updL f h (-1)) (upd hg j 1))) := by
  refine Ct.of (by decide) (Nat.le_of_ble_eq_true rfl) (lv := [(0, .ref (r 0)), (1, .int (nI ro)), (2, .int (nI k))]) rfl ?_
  intro X F hR
  have F : zF X l ({ frames := 2, cells := 0, slots := 0, locals := 60 } : Room) E cX8_act 9 "LiveQueriesModel" := F
  refine z_aload_n (pc := 0) F dX8_act_0 rfl 0 rfl ?_
  refine z_get (pc := 1) (v := .ref (r 11)) F iX8 0 rfl rfl 14 (by decide) tw_872 rfl dX8_act_1 ?_
  refine z_iload_n (pc := 4) F dX8_act_4 rfl 2 rfl ?_
  refine z_ialdN (pc := 5) (f := za S 11) F 11 0 rfl rfl k rfl (by omega) (by decide) dX8_act_5 ?_
  rw [show (za S 11 k) = nI 2 from hc]
  refine z_istore_n (pc := 6) (lv' := [(0, .ref (r 0)), (1, .int (nI ro)), (2, .int (nI k)), (3, .int (nI 2))]) F dX8_act_6 rfl (by decide) [1, 2, 3, 0] rfl ?_
  refine z_iload_n (pc := 7) F dX8_act_7 rfl 3 rfl ?_
  · refine z_tableIn (off := 127) (tgt := 135) (pc := 8) F dX8_act_8 (by decide) (by decide) (by decide) (by decide) ?_
    refine z_aload_n (pc := 135) F dX8_act_135 rfl 0 rfl ?_
    refine z_callVW (pc := 136) (q0 := 0) (ci := 8) (rest := []) F (c_X8_looked_s l E r S h ab f hg j (by first | assumption | rfl | omega) (by first | assumption | rfl | omega) (by first | assumption | rfl | omega)) 0 ww_Model_116 (by decide +kernel) rfl ⟨Nat.le_of_ble_eq_true rfl, Nat.le_of_ble_eq_true rfl⟩ ⟨Nat.le_of_ble_eq_true rfl, Nat.le_of_ble_eq_true rfl⟩ rfl rfl rfl rfl (Nat.le_of_ble_eq_true rfl) dX8_act_136 (fun v_ w1_ hp => ?_)
    obtain ⟨rfl, rfl⟩ := hp
    show Z X (0) (0) (mw E r (mst S (nI h) ab f (upd hg j 1))) [(0, .ref (r 0)), (1, .int (nI ro)), (2, .int (nI k)), (3, .int (nI 2))] 139 [.int (nI j)]
    refine z_istore (pc := 139) (lv' := [(0, .ref (r 0)), (1, .int (nI ro)), (2, .int (nI k)), (3, .int (nI 2)), (4, .int (nI j))]) F dX8_act_139 (by decide) [1, 2, 3, 4, 0] rfl ?_
    refine z_aload_n (pc := 141) F dX8_act_141 rfl 0 rfl ?_
    refine z_iload (pc := 142) F dX8_act_142 4 rfl ?_
    refine z_iconst (pc := 144) (v := (-1)) F dX8_act_144 (by decide) ?_
    refine z_icmp_eq (pc := 145) (tgt := 185) F dX8_act_145 (by decide) (fun c145 => absurd c145 (nI_nm (by omega))) (fun c145 => ?_)
    refine z_aload_n (pc := 148) F dX8_act_148 rfl 0 rfl ?_
    refine z_get (pc := 149) (v := .ref (r 5)) F iX8 0 rfl rfl 7 (by decide) tw_865 rfl dX8_act_149 ?_
    refine z_iload (pc := 152) F dX8_act_152 4 rfl ?_
    refine z_ialdN (pc := 154) (f := za S 5) F 5 0 rfl rfl j rfl (by omega) (by decide) dX8_act_154 ?_
    rw [show (za S 5 j) = (-1) from hr]
    refine z_iconst (pc := 155) (v := (-1)) F dX8_act_155 (by decide) ?_
    refine z_icmp_eq (pc := 156) (tgt := 185) F dX8_act_156 (by decide) (fun _ => ?_) (fun h => absurd h (by decide))
    refine z_ldc2 (pc := 185) F dX8_act_185 tw_1012 ?_
    refine z_callVW (pc := 188) (q0 := 0) (ci := 8) (rest := []) F (c_X8_push l E r S h ab f (upd hg j 1) (-1) (by first | assumption | rfl | omega)) 1 ww_Model_112 (by decide +kernel) rfl ⟨Nat.le_of_ble_eq_true rfl, Nat.le_of_ble_eq_true rfl⟩ ⟨Nat.le_of_ble_eq_true rfl, Nat.le_of_ble_eq_true rfl⟩ rfl rfl rfl rfl (Nat.le_of_ble_eq_true rfl) dX8_act_188 (fun v_ w1_ hp => ?_)
    obtain ⟨rfl, rfl⟩ := hp
    show Z X (0) (0) (mw E r (mst S (nI (h + 1)) ab (vp_updL f h (-1)) (upd hg j 1))) [(0, .ref (r 0)), (1, .int (nI ro)), (2, .int (nI k)), (3, .int (nI 2)), (4, .int (nI j))] 191 []
    refine z_goto (pc := 191) (tgt := 416) F dX8_act_191 (by decide) ?_
    exact z_vret (pc := 416) F hR dX8_act_416 (Nat.le_of_ble_eq_true rfl) (Nat.le_of_ble_eq_true rfl) ⟨rfl, rfl⟩
set_option maxHeartbeats 4000000 in
set_option maxRecDepth 100000 in
theorem c_X8_act_2b (l : Launch) (E : zE) (r : Nat → Nat) (S : zS) (h : Nat) (ab : Int32) (f : Nat → Int64) (hg : Nat → Int32) (ro : Nat) (k : Nat) (j : Nat) (i : Nat) (hh : h < 238) (hk : k < 1440) (hro : ro < 60) (hc : za S 11 k = nI 2) (hv : f h = lN j) (hj : j < 60) (hi : i < 60) (hr : za S 5 j = nI i) (ht : za S 2 i = 0) : Ct l yX8_act cX8_act 9 (none) ({ frames := 2, cells := 0, slots := 0, locals := 60 } : Room) E (mw E r (mst S (nI (h + 1)) ab f hg)) [.ref (r 0), .int (nI ro), .int (nI k)] (fun v_ w_ => v_ = none ∧ w_ = mw E r (mst S (nI (h + 1)) ab (vp_updL f h (-1)) (upd hg j 1))) := by
  refine Ct.of (by decide) (Nat.le_of_ble_eq_true rfl) (lv := [(0, .ref (r 0)), (1, .int (nI ro)), (2, .int (nI k))]) rfl ?_
  intro X F hR
  have F : zF X l ({ frames := 2, cells := 0, slots := 0, locals := 60 } : Room) E cX8_act 9 "LiveQueriesModel" := F
  refine z_aload_n (pc := 0) F dX8_act_0 rfl 0 rfl ?_
  refine z_get (pc := 1) (v := .ref (r 11)) F iX8 0 rfl rfl 14 (by decide) tw_872 rfl dX8_act_1 ?_
  refine z_iload_n (pc := 4) F dX8_act_4 rfl 2 rfl ?_
  refine z_ialdN (pc := 5) (f := za S 11) F 11 0 rfl rfl k rfl (by omega) (by decide) dX8_act_5 ?_
  rw [show (za S 11 k) = nI 2 from hc]
  refine z_istore_n (pc := 6) (lv' := [(0, .ref (r 0)), (1, .int (nI ro)), (2, .int (nI k)), (3, .int (nI 2))]) F dX8_act_6 rfl (by decide) [1, 2, 3, 0] rfl ?_
  refine z_iload_n (pc := 7) F dX8_act_7 rfl 3 rfl ?_
  · refine z_tableIn (off := 127) (tgt := 135) (pc := 8) F dX8_act_8 (by decide) (by decide) (by decide) (by decide) ?_
    refine z_aload_n (pc := 135) F dX8_act_135 rfl 0 rfl ?_
    refine z_callVW (pc := 136) (q0 := 0) (ci := 8) (rest := []) F (c_X8_looked_s l E r S h ab f hg j (by first | assumption | rfl | omega) (by first | assumption | rfl | omega) (by first | assumption | rfl | omega)) 0 ww_Model_116 (by decide +kernel) rfl ⟨Nat.le_of_ble_eq_true rfl, Nat.le_of_ble_eq_true rfl⟩ ⟨Nat.le_of_ble_eq_true rfl, Nat.le_of_ble_eq_true rfl⟩ rfl rfl rfl rfl (Nat.le_of_ble_eq_true rfl) dX8_act_136 (fun v_ w1_ hp => ?_)
    obtain ⟨rfl, rfl⟩ := hp
    show Z X (0) (0) (mw E r (mst S (nI h) ab f (upd hg j 1))) [(0, .ref (r 0)), (1, .int (nI ro)), (2, .int (nI k)), (3, .int (nI 2))] 139 [.int (nI j)]
    refine z_istore (pc := 139) (lv' := [(0, .ref (r 0)), (1, .int (nI ro)), (2, .int (nI k)), (3, .int (nI 2)), (4, .int (nI j))]) F dX8_act_139 (by decide) [1, 2, 3, 4, 0] rfl ?_
    refine z_aload_n (pc := 141) F dX8_act_141 rfl 0 rfl ?_
    refine z_iload (pc := 142) F dX8_act_142 4 rfl ?_
    refine z_iconst (pc := 144) (v := (-1)) F dX8_act_144 (by decide) ?_
    refine z_icmp_eq (pc := 145) (tgt := 185) F dX8_act_145 (by decide) (fun c145 => absurd c145 (nI_nm (by omega))) (fun c145 => ?_)
    refine z_aload_n (pc := 148) F dX8_act_148 rfl 0 rfl ?_
    refine z_get (pc := 149) (v := .ref (r 5)) F iX8 0 rfl rfl 7 (by decide) tw_865 rfl dX8_act_149 ?_
    refine z_iload (pc := 152) F dX8_act_152 4 rfl ?_
    refine z_ialdN (pc := 154) (f := za S 5) F 5 0 rfl rfl j rfl (by omega) (by decide) dX8_act_154 ?_
    rw [show (za S 5 j) = nI i from hr]
    refine z_iconst (pc := 155) (v := (-1)) F dX8_act_155 (by decide) ?_
    refine z_icmp_eq (pc := 156) (tgt := 185) F dX8_act_156 (by decide) (fun c156 => absurd c156 (nI_nm (by omega))) (fun c156 => ?_)
    refine z_aload_n (pc := 159) F dX8_act_159 rfl 0 rfl ?_
    refine z_get (pc := 160) (v := .ref (r 2)) F iX8 0 rfl rfl 4 (by decide) tw_862 rfl dX8_act_160 ?_
    refine z_aload_n (pc := 163) F dX8_act_163 rfl 0 rfl ?_
    refine z_get (pc := 164) (v := .ref (r 5)) F iX8 0 rfl rfl 7 (by decide) tw_865 rfl dX8_act_164 ?_
    refine z_iload (pc := 167) F dX8_act_167 4 rfl ?_
    refine z_ialdN (pc := 169) (f := za S 5) F 5 0 rfl rfl j rfl (by omega) (by decide) dX8_act_169 ?_
    rw [show (za S 5 j) = nI i from hr]
    refine z_zaldN (pc := 170) (f := za S 2) F 2 2 rfl rfl i rfl (by omega) (by decide) dX8_act_170 ?_
    rw [show (za S 2 i) = 0 from ht]
    refine z_if_eq (pc := 171) (tgt := 185) F dX8_act_171 (by decide) (fun _ => ?_) (fun h => absurd h (by decide))
    refine z_ldc2 (pc := 185) F dX8_act_185 tw_1012 ?_
    refine z_callVW (pc := 188) (q0 := 0) (ci := 8) (rest := []) F (c_X8_push l E r S h ab f (upd hg j 1) (-1) (by first | assumption | rfl | omega)) 1 ww_Model_112 (by decide +kernel) rfl ⟨Nat.le_of_ble_eq_true rfl, Nat.le_of_ble_eq_true rfl⟩ ⟨Nat.le_of_ble_eq_true rfl, Nat.le_of_ble_eq_true rfl⟩ rfl rfl rfl rfl (Nat.le_of_ble_eq_true rfl) dX8_act_188 (fun v_ w1_ hp => ?_)
    obtain ⟨rfl, rfl⟩ := hp
    show Z X (0) (0) (mw E r (mst S (nI (h + 1)) ab (vp_updL f h (-1)) (upd hg j 1))) [(0, .ref (r 0)), (1, .int (nI ro)), (2, .int (nI k)), (3, .int (nI 2)), (4, .int (nI j))] 191 []
    refine z_goto (pc := 191) (tgt := 416) F dX8_act_191 (by decide) ?_
    exact z_vret (pc := 416) F hR dX8_act_416 (Nat.le_of_ble_eq_true rfl) (Nat.le_of_ble_eq_true rfl) ⟨rfl, rfl⟩
set_option maxHeartbeats 4000000 in
set_option maxRecDepth 100000 in
theorem c_X8_act_2c (l : Launch) (E : zE) (r : Nat → Nat) (S : zS) (h : Nat) (ab : Int32) (f : Nat → Int64) (hg : Nat → Int32) (ro : Nat) (k : Nat) (j : Nat) (i : Nat) (hh : h < 238) (hk : k < 1440) (hro : ro < 60) (hc : za S 11 k = nI 2) (hv : f h = lN j) (hj : j < 60) (hi : i < 60) (hr : za S 5 j = nI i) (ht : ¬ za S 2 i = 0) : Ct l yX8_act cX8_act 9 (none) ({ frames := 2, cells := 0, slots := 0, locals := 60 } : Room) E (mw E r (mst S (nI (h + 1)) ab f hg)) [.ref (r 0), .int (nI ro), .int (nI k)] (fun v_ w_ => v_ = none ∧ w_ = mw E r (mst S (nI (h + 1)) ab (vp_updL f h (lN i)) (upd hg j 1))) := by
  refine Ct.of (by decide) (Nat.le_of_ble_eq_true rfl) (lv := [(0, .ref (r 0)), (1, .int (nI ro)), (2, .int (nI k))]) rfl ?_
  intro X F hR
  have F : zF X l ({ frames := 2, cells := 0, slots := 0, locals := 60 } : Room) E cX8_act 9 "LiveQueriesModel" := F
  refine z_aload_n (pc := 0) F dX8_act_0 rfl 0 rfl ?_
  refine z_get (pc := 1) (v := .ref (r 11)) F iX8 0 rfl rfl 14 (by decide) tw_872 rfl dX8_act_1 ?_
  refine z_iload_n (pc := 4) F dX8_act_4 rfl 2 rfl ?_
  refine z_ialdN (pc := 5) (f := za S 11) F 11 0 rfl rfl k rfl (by omega) (by decide) dX8_act_5 ?_
  rw [show (za S 11 k) = nI 2 from hc]
  refine z_istore_n (pc := 6) (lv' := [(0, .ref (r 0)), (1, .int (nI ro)), (2, .int (nI k)), (3, .int (nI 2))]) F dX8_act_6 rfl (by decide) [1, 2, 3, 0] rfl ?_
  refine z_iload_n (pc := 7) F dX8_act_7 rfl 3 rfl ?_
  · refine z_tableIn (off := 127) (tgt := 135) (pc := 8) F dX8_act_8 (by decide) (by decide) (by decide) (by decide) ?_
    refine z_aload_n (pc := 135) F dX8_act_135 rfl 0 rfl ?_
    refine z_callVW (pc := 136) (q0 := 0) (ci := 8) (rest := []) F (c_X8_looked_s l E r S h ab f hg j (by first | assumption | rfl | omega) (by first | assumption | rfl | omega) (by first | assumption | rfl | omega)) 0 ww_Model_116 (by decide +kernel) rfl ⟨Nat.le_of_ble_eq_true rfl, Nat.le_of_ble_eq_true rfl⟩ ⟨Nat.le_of_ble_eq_true rfl, Nat.le_of_ble_eq_true rfl⟩ rfl rfl rfl rfl (Nat.le_of_ble_eq_true rfl) dX8_act_136 (fun v_ w1_ hp => ?_)
    obtain ⟨rfl, rfl⟩ := hp
    show Z X (0) (0) (mw E r (mst S (nI h) ab f (upd hg j 1))) [(0, .ref (r 0)), (1, .int (nI ro)), (2, .int (nI k)), (3, .int (nI 2))] 139 [.int (nI j)]
    refine z_istore (pc := 139) (lv' := [(0, .ref (r 0)), (1, .int (nI ro)), (2, .int (nI k)), (3, .int (nI 2)), (4, .int (nI j))]) F dX8_act_139 (by decide) [1, 2, 3, 4, 0] rfl ?_
    refine z_aload_n (pc := 141) F dX8_act_141 rfl 0 rfl ?_
    refine z_iload (pc := 142) F dX8_act_142 4 rfl ?_
    refine z_iconst (pc := 144) (v := (-1)) F dX8_act_144 (by decide) ?_
    refine z_icmp_eq (pc := 145) (tgt := 185) F dX8_act_145 (by decide) (fun c145 => absurd c145 (nI_nm (by omega))) (fun c145 => ?_)
    refine z_aload_n (pc := 148) F dX8_act_148 rfl 0 rfl ?_
    refine z_get (pc := 149) (v := .ref (r 5)) F iX8 0 rfl rfl 7 (by decide) tw_865 rfl dX8_act_149 ?_
    refine z_iload (pc := 152) F dX8_act_152 4 rfl ?_
    refine z_ialdN (pc := 154) (f := za S 5) F 5 0 rfl rfl j rfl (by omega) (by decide) dX8_act_154 ?_
    rw [show (za S 5 j) = nI i from hr]
    refine z_iconst (pc := 155) (v := (-1)) F dX8_act_155 (by decide) ?_
    refine z_icmp_eq (pc := 156) (tgt := 185) F dX8_act_156 (by decide) (fun c156 => absurd c156 (nI_nm (by omega))) (fun c156 => ?_)
    refine z_aload_n (pc := 159) F dX8_act_159 rfl 0 rfl ?_
    refine z_get (pc := 160) (v := .ref (r 2)) F iX8 0 rfl rfl 4 (by decide) tw_862 rfl dX8_act_160 ?_
    refine z_aload_n (pc := 163) F dX8_act_163 rfl 0 rfl ?_
    refine z_get (pc := 164) (v := .ref (r 5)) F iX8 0 rfl rfl 7 (by decide) tw_865 rfl dX8_act_164 ?_
    refine z_iload (pc := 167) F dX8_act_167 4 rfl ?_
    refine z_ialdN (pc := 169) (f := za S 5) F 5 0 rfl rfl j rfl (by omega) (by decide) dX8_act_169 ?_
    rw [show (za S 5 j) = nI i from hr]
    refine z_zaldN (pc := 170) (f := za S 2) F 2 2 rfl rfl i rfl (by omega) (by decide) dX8_act_170 ?_
    refine z_if_eq (pc := 171) (tgt := 185) F dX8_act_171 (by decide) (fun c171 => absurd c171 ht) (fun c171 => ?_)
    refine z_aload_n (pc := 174) F dX8_act_174 rfl 0 rfl ?_
    refine z_get (pc := 175) (v := .ref (r 5)) F iX8 0 rfl rfl 7 (by decide) tw_865 rfl dX8_act_175 ?_
    refine z_iload (pc := 178) F dX8_act_178 4 rfl ?_
    refine z_ialdN (pc := 180) (f := za S 5) F 5 0 rfl rfl j rfl (by omega) (by decide) dX8_act_180 ?_
    rw [show (za S 5 j) = nI i from hr]
    refine z_i2l (pc := 181) F dX8_act_181 ?_
    rw [show ((nI i).toInt64) = lN i from (nI_l (by omega))]
    refine z_goto (pc := 182) (tgt := 188) F dX8_act_182 (by decide) ?_
    refine z_callVW (pc := 188) (q0 := 0) (ci := 8) (rest := []) F (c_X8_push l E r S h ab f (upd hg j 1) (lN i) (by first | assumption | rfl | omega)) 1 ww_Model_112 (by decide +kernel) rfl ⟨Nat.le_of_ble_eq_true rfl, Nat.le_of_ble_eq_true rfl⟩ ⟨Nat.le_of_ble_eq_true rfl, Nat.le_of_ble_eq_true rfl⟩ rfl rfl rfl rfl (Nat.le_of_ble_eq_true rfl) dX8_act_188 (fun v_ w1_ hp => ?_)
    obtain ⟨rfl, rfl⟩ := hp
    show Z X (0) (0) (mw E r (mst S (nI (h + 1)) ab (vp_updL f h (lN i)) (upd hg j 1))) [(0, .ref (r 0)), (1, .int (nI ro)), (2, .int (nI k)), (3, .int (nI 2)), (4, .int (nI j))] 191 []
    refine z_goto (pc := 191) (tgt := 416) F dX8_act_191 (by decide) ?_
    exact z_vret (pc := 416) F hR dX8_act_416 (Nat.le_of_ble_eq_true rfl) (Nat.le_of_ble_eq_true rfl) ⟨rfl, rfl⟩
set_option maxHeartbeats 4000000 in
set_option maxRecDepth 100000 in
theorem c_X8_act_6n (l : Launch) (E : zE) (r : Nat → Nat) (S : zS) (h : Nat) (ab : Int32) (f : Nat → Int64) (hg : Nat → Int32) (ro : Nat) (k : Nat) (hh : h < 238) (hk : k < 1440) (hro : ro < 60) (hc : za S 11 k = nI 6) (hv : f h = -1) : Ct l yX8_act cX8_act 9 (none) ({ frames := 2, cells := 0, slots := 0, locals := 60 } : Room) E (mw E r (mst S (nI (h + 1)) ab f hg)) [.ref (r 0), .int (nI ro), .int (nI k)] (fun v_ w_ => v_ = none ∧ w_ = mw E r (mst S (nI (h + 1)) 1 (vp_updL f h 0) hg)) := by
  refine Ct.of (by decide) (Nat.le_of_ble_eq_true rfl) (lv := [(0, .ref (r 0)), (1, .int (nI ro)), (2, .int (nI k))]) rfl ?_
  intro X F hR
  have F : zF X l ({ frames := 2, cells := 0, slots := 0, locals := 60 } : Room) E cX8_act 9 "LiveQueriesModel" := F
  refine z_aload_n (pc := 0) F dX8_act_0 rfl 0 rfl ?_
  refine z_get (pc := 1) (v := .ref (r 11)) F iX8 0 rfl rfl 14 (by decide) tw_872 rfl dX8_act_1 ?_
  refine z_iload_n (pc := 4) F dX8_act_4 rfl 2 rfl ?_
  refine z_ialdN (pc := 5) (f := za S 11) F 11 0 rfl rfl k rfl (by omega) (by decide) dX8_act_5 ?_
  rw [show (za S 11 k) = nI 6 from hc]
  refine z_istore_n (pc := 6) (lv' := [(0, .ref (r 0)), (1, .int (nI ro)), (2, .int (nI k)), (3, .int (nI 6))]) F dX8_act_6 rfl (by decide) [1, 2, 3, 0] rfl ?_
  refine z_iload_n (pc := 7) F dX8_act_7 rfl 3 rfl ?_
  · refine z_tableIn (off := 186) (tgt := 194) (pc := 8) F dX8_act_8 (by decide) (by decide) (by decide) (by decide) ?_
    refine z_aload_n (pc := 194) F dX8_act_194 rfl 0 rfl ?_
    refine z_callVW (pc := 195) (q0 := 0) (ci := 8) (rest := []) F (c_X8_looked_n l E r S h ab f hg (by first | assumption | rfl | omega) (by first | assumption | rfl | omega)) 0 ww_Model_116 (by decide +kernel) rfl ⟨Nat.le_of_ble_eq_true rfl, Nat.le_of_ble_eq_true rfl⟩ ⟨Nat.le_of_ble_eq_true rfl, Nat.le_of_ble_eq_true rfl⟩ rfl rfl rfl rfl (Nat.le_of_ble_eq_true rfl) dX8_act_195 (fun v_ w1_ hp => ?_)
    obtain ⟨rfl, rfl⟩ := hp
    show Z X (0) (0) (mw E r (mst S (nI h) 1 f hg)) [(0, .ref (r 0)), (1, .int (nI ro)), (2, .int (nI k)), (3, .int (nI 6))] 198 [.int (-1)]
    refine z_istore (pc := 198) (lv' := [(0, .ref (r 0)), (1, .int (nI ro)), (2, .int (nI k)), (3, .int (nI 6)), (4, .int (-1))]) F dX8_act_198 (by decide) [1, 2, 3, 4, 0] rfl ?_
    refine z_aload_n (pc := 200) F dX8_act_200 rfl 0 rfl ?_
    refine z_iload (pc := 201) F dX8_act_201 4 rfl ?_
    refine z_iconst (pc := 203) (v := (-1)) F dX8_act_203 (by decide) ?_
    refine z_icmp_ne (pc := 204) (tgt := 211) F dX8_act_204 (by decide) (fun h => absurd h (by decide)) (fun _ => ?_)
    refine z_lconst (pc := 207) (v := 0) F dX8_act_207 (by decide) ?_
    refine z_goto (pc := 208) (tgt := 219) F dX8_act_208 (by decide) ?_
    refine z_callVW (pc := 219) (q0 := 0) (ci := 8) (rest := []) F (c_X8_push l E r S h 1 f hg 0 (by first | assumption | rfl | omega)) 1 ww_Model_112 (by decide +kernel) rfl ⟨Nat.le_of_ble_eq_true rfl, Nat.le_of_ble_eq_true rfl⟩ ⟨Nat.le_of_ble_eq_true rfl, Nat.le_of_ble_eq_true rfl⟩ rfl rfl rfl rfl (Nat.le_of_ble_eq_true rfl) dX8_act_219 (fun v_ w1_ hp => ?_)
    obtain ⟨rfl, rfl⟩ := hp
    show Z X (0) (0) (mw E r (mst S (nI (h + 1)) 1 (vp_updL f h 0) hg)) [(0, .ref (r 0)), (1, .int (nI ro)), (2, .int (nI k)), (3, .int (nI 6)), (4, .int (-1))] 222 []
    refine z_goto (pc := 222) (tgt := 416) F dX8_act_222 (by decide) ?_
    exact z_vret (pc := 416) F hR dX8_act_416 (Nat.le_of_ble_eq_true rfl) (Nat.le_of_ble_eq_true rfl) ⟨rfl, rfl⟩
set_option maxHeartbeats 4000000 in
set_option maxRecDepth 100000 in
theorem c_X8_act_6s (l : Launch) (E : zE) (r : Nat → Nat) (S : zS) (h : Nat) (ab : Int32) (f : Nat → Int64) (hg : Nat → Int32) (ro : Nat) (k : Nat) (j : Nat) (hh : h < 238) (hk : k < 1440) (hro : ro < 60) (hc : za S 11 k = nI 6) (hv : f h = lN j) (hj : j < 60) : Ct l yX8_act cX8_act 9 (none) ({ frames := 2, cells := 0, slots := 0, locals := 60 } : Room) E (mw E r (mst S (nI (h + 1)) ab f hg)) [.ref (r 0), .int (nI ro), .int (nI k)] (fun v_ w_ => v_ = none ∧ w_ = mw E r (mst S (nI (h + 1)) ab (vp_updL f h (za S 6 j).toInt64) (upd hg j 1))) := by
  refine Ct.of (by decide) (Nat.le_of_ble_eq_true rfl) (lv := [(0, .ref (r 0)), (1, .int (nI ro)), (2, .int (nI k))]) rfl ?_
  intro X F hR
  have F : zF X l ({ frames := 2, cells := 0, slots := 0, locals := 60 } : Room) E cX8_act 9 "LiveQueriesModel" := F
  refine z_aload_n (pc := 0) F dX8_act_0 rfl 0 rfl ?_
  refine z_get (pc := 1) (v := .ref (r 11)) F iX8 0 rfl rfl 14 (by decide) tw_872 rfl dX8_act_1 ?_
  refine z_iload_n (pc := 4) F dX8_act_4 rfl 2 rfl ?_
  refine z_ialdN (pc := 5) (f := za S 11) F 11 0 rfl rfl k rfl (by omega) (by decide) dX8_act_5 ?_
  rw [show (za S 11 k) = nI 6 from hc]
  refine z_istore_n (pc := 6) (lv' := [(0, .ref (r 0)), (1, .int (nI ro)), (2, .int (nI k)), (3, .int (nI 6))]) F dX8_act_6 rfl (by decide) [1, 2, 3, 0] rfl ?_
  refine z_iload_n (pc := 7) F dX8_act_7 rfl 3 rfl ?_
  · refine z_tableIn (off := 186) (tgt := 194) (pc := 8) F dX8_act_8 (by decide) (by decide) (by decide) (by decide) ?_
    refine z_aload_n (pc := 194) F dX8_act_194 rfl 0 rfl ?_
    refine z_callVW (pc := 195) (q0 := 0) (ci := 8) (rest := []) F (c_X8_looked_s l E r S h ab f hg j (by first | assumption | rfl | omega) (by first | assumption | rfl | omega) (by first | assumption | rfl | omega)) 0 ww_Model_116 (by decide +kernel) rfl ⟨Nat.le_of_ble_eq_true rfl, Nat.le_of_ble_eq_true rfl⟩ ⟨Nat.le_of_ble_eq_true rfl, Nat.le_of_ble_eq_true rfl⟩ rfl rfl rfl rfl (Nat.le_of_ble_eq_true rfl) dX8_act_195 (fun v_ w1_ hp => ?_)
    obtain ⟨rfl, rfl⟩ := hp
    show Z X (0) (0) (mw E r (mst S (nI h) ab f (upd hg j 1))) [(0, .ref (r 0)), (1, .int (nI ro)), (2, .int (nI k)), (3, .int (nI 6))] 198 [.int (nI j)]
    refine z_istore (pc := 198) (lv' := [(0, .ref (r 0)), (1, .int (nI ro)), (2, .int (nI k)), (3, .int (nI 6)), (4, .int (nI j))]) F dX8_act_198 (by decide) [1, 2, 3, 4, 0] rfl ?_
    refine z_aload_n (pc := 200) F dX8_act_200 rfl 0 rfl ?_
    refine z_iload (pc := 201) F dX8_act_201 4 rfl ?_
    refine z_iconst (pc := 203) (v := (-1)) F dX8_act_203 (by decide) ?_
    refine z_icmp_ne (pc := 204) (tgt := 211) F dX8_act_204 (by decide) (fun c204 => ?_) (fun c204 => absurd c204 (nI_nm (by omega)))
    refine z_aload_n (pc := 211) F dX8_act_211 rfl 0 rfl ?_
    refine z_get (pc := 212) (v := .ref (r 6)) F iX8 0 rfl rfl 8 (by decide) tw_866 rfl dX8_act_212 ?_
    refine z_iload (pc := 215) F dX8_act_215 4 rfl ?_
    refine z_ialdN (pc := 217) (f := za S 6) F 6 0 rfl rfl j rfl (by omega) (by decide) dX8_act_217 ?_
    refine z_i2l (pc := 218) F dX8_act_218 ?_
    refine z_callVW (pc := 219) (q0 := 0) (ci := 8) (rest := []) F (c_X8_push l E r S h ab f (upd hg j 1) ((za S 6 j).toInt64) (by first | assumption | rfl | omega)) 1 ww_Model_112 (by decide +kernel) rfl ⟨Nat.le_of_ble_eq_true rfl, Nat.le_of_ble_eq_true rfl⟩ ⟨Nat.le_of_ble_eq_true rfl, Nat.le_of_ble_eq_true rfl⟩ rfl rfl rfl rfl (Nat.le_of_ble_eq_true rfl) dX8_act_219 (fun v_ w1_ hp => ?_)
    obtain ⟨rfl, rfl⟩ := hp
    show Z X (0) (0) (mw E r (mst S (nI (h + 1)) ab (vp_updL f h ((za S 6 j).toInt64)) (upd hg j 1))) [(0, .ref (r 0)), (1, .int (nI ro)), (2, .int (nI k)), (3, .int (nI 6)), (4, .int (nI j))] 222 []
    refine z_goto (pc := 222) (tgt := 416) F dX8_act_222 (by decide) ?_
    exact z_vret (pc := 416) F hR dX8_act_416 (Nat.le_of_ble_eq_true rfl) (Nat.le_of_ble_eq_true rfl) ⟨rfl, rfl⟩
set_option maxHeartbeats 4000000 in
set_option maxRecDepth 100000 in
theorem c_X8_act_7n (l : Launch) (E : zE) (r : Nat → Nat) (S : zS) (h : Nat) (ab : Int32) (f : Nat → Int64) (hg : Nat → Int32) (ro : Nat) (k : Nat) (hh : h < 238) (hk : k < 1440) (hro : ro < 60) (hc : za S 11 k = nI 7) (hv : f h = -1) : Ct l yX8_act cX8_act 9 (none) ({ frames := 2, cells := 0, slots := 0, locals := 60 } : Room) E (mw E r (mst S (nI (h + 1)) ab f hg)) [.ref (r 0), .int (nI ro), .int (nI k)] (fun v_ w_ => v_ = none ∧ w_ = mw E r (mst S (nI (h + 1)) 1 (vp_updL f h 0) hg)) := by
  refine Ct.of (by decide) (Nat.le_of_ble_eq_true rfl) (lv := [(0, .ref (r 0)), (1, .int (nI ro)), (2, .int (nI k))]) rfl ?_
  intro X F hR
  have F : zF X l ({ frames := 2, cells := 0, slots := 0, locals := 60 } : Room) E cX8_act 9 "LiveQueriesModel" := F
  refine z_aload_n (pc := 0) F dX8_act_0 rfl 0 rfl ?_
  refine z_get (pc := 1) (v := .ref (r 11)) F iX8 0 rfl rfl 14 (by decide) tw_872 rfl dX8_act_1 ?_
  refine z_iload_n (pc := 4) F dX8_act_4 rfl 2 rfl ?_
  refine z_ialdN (pc := 5) (f := za S 11) F 11 0 rfl rfl k rfl (by omega) (by decide) dX8_act_5 ?_
  rw [show (za S 11 k) = nI 7 from hc]
  refine z_istore_n (pc := 6) (lv' := [(0, .ref (r 0)), (1, .int (nI ro)), (2, .int (nI k)), (3, .int (nI 7))]) F dX8_act_6 rfl (by decide) [1, 2, 3, 0] rfl ?_
  refine z_iload_n (pc := 7) F dX8_act_7 rfl 3 rfl ?_
  · refine z_tableIn (off := 217) (tgt := 225) (pc := 8) F dX8_act_8 (by decide) (by decide) (by decide) (by decide) ?_
    refine z_aload_n (pc := 225) F dX8_act_225 rfl 0 rfl ?_
    refine z_callVW (pc := 226) (q0 := 0) (ci := 8) (rest := []) F (c_X8_looked_n l E r S h ab f hg (by first | assumption | rfl | omega) (by first | assumption | rfl | omega)) 0 ww_Model_116 (by decide +kernel) rfl ⟨Nat.le_of_ble_eq_true rfl, Nat.le_of_ble_eq_true rfl⟩ ⟨Nat.le_of_ble_eq_true rfl, Nat.le_of_ble_eq_true rfl⟩ rfl rfl rfl rfl (Nat.le_of_ble_eq_true rfl) dX8_act_226 (fun v_ w1_ hp => ?_)
    obtain ⟨rfl, rfl⟩ := hp
    show Z X (0) (0) (mw E r (mst S (nI h) 1 f hg)) [(0, .ref (r 0)), (1, .int (nI ro)), (2, .int (nI k)), (3, .int (nI 7))] 229 [.int (-1)]
    refine z_istore (pc := 229) (lv' := [(0, .ref (r 0)), (1, .int (nI ro)), (2, .int (nI k)), (3, .int (nI 7)), (4, .int (-1))]) F dX8_act_229 (by decide) [1, 2, 3, 4, 0] rfl ?_
    refine z_aload_n (pc := 231) F dX8_act_231 rfl 0 rfl ?_
    refine z_iload (pc := 232) F dX8_act_232 4 rfl ?_
    refine z_iconst (pc := 234) (v := (-1)) F dX8_act_234 (by decide) ?_
    refine z_icmp_ne (pc := 235) (tgt := 242) F dX8_act_235 (by decide) (fun h => absurd h (by decide)) (fun _ => ?_)
    refine z_lconst (pc := 238) (v := 0) F dX8_act_238 (by decide) ?_
    refine z_goto (pc := 239) (tgt := 245) F dX8_act_239 (by decide) ?_
    refine z_callVW (pc := 245) (q0 := 0) (ci := 8) (rest := []) F (c_X8_push l E r S h 1 f hg 0 (by first | assumption | rfl | omega)) 1 ww_Model_112 (by decide +kernel) rfl ⟨Nat.le_of_ble_eq_true rfl, Nat.le_of_ble_eq_true rfl⟩ ⟨Nat.le_of_ble_eq_true rfl, Nat.le_of_ble_eq_true rfl⟩ rfl rfl rfl rfl (Nat.le_of_ble_eq_true rfl) dX8_act_245 (fun v_ w1_ hp => ?_)
    obtain ⟨rfl, rfl⟩ := hp
    show Z X (0) (0) (mw E r (mst S (nI (h + 1)) 1 (vp_updL f h 0) hg)) [(0, .ref (r 0)), (1, .int (nI ro)), (2, .int (nI k)), (3, .int (nI 7)), (4, .int (-1))] 248 []
    refine z_goto (pc := 248) (tgt := 416) F dX8_act_248 (by decide) ?_
    exact z_vret (pc := 416) F hR dX8_act_416 (Nat.le_of_ble_eq_true rfl) (Nat.le_of_ble_eq_true rfl) ⟨rfl, rfl⟩
set_option maxHeartbeats 4000000 in
set_option maxRecDepth 100000 in
theorem c_X8_act_7s (l : Launch) (E : zE) (r : Nat → Nat) (S : zS) (h : Nat) (ab : Int32) (f : Nat → Int64) (hg : Nat → Int32) (ro : Nat) (k : Nat) (j : Nat) (hh : h < 238) (hk : k < 1440) (hro : ro < 60) (hc : za S 11 k = nI 7) (hv : f h = lN j) (hj : j < 60) : Ct l yX8_act cX8_act 9 (none) ({ frames := 2, cells := 0, slots := 0, locals := 60 } : Room) E (mw E r (mst S (nI (h + 1)) ab f hg)) [.ref (r 0), .int (nI ro), .int (nI k)] (fun v_ w_ => v_ = none ∧ w_ = mw E r (mst S (nI (h + 1)) ab (vp_updL f h (lN j)) (upd hg j 1))) := by
  refine Ct.of (by decide) (Nat.le_of_ble_eq_true rfl) (lv := [(0, .ref (r 0)), (1, .int (nI ro)), (2, .int (nI k))]) rfl ?_
  intro X F hR
  have F : zF X l ({ frames := 2, cells := 0, slots := 0, locals := 60 } : Room) E cX8_act 9 "LiveQueriesModel" := F
  refine z_aload_n (pc := 0) F dX8_act_0 rfl 0 rfl ?_
  refine z_get (pc := 1) (v := .ref (r 11)) F iX8 0 rfl rfl 14 (by decide) tw_872 rfl dX8_act_1 ?_
  refine z_iload_n (pc := 4) F dX8_act_4 rfl 2 rfl ?_
  refine z_ialdN (pc := 5) (f := za S 11) F 11 0 rfl rfl k rfl (by omega) (by decide) dX8_act_5 ?_
  rw [show (za S 11 k) = nI 7 from hc]
  refine z_istore_n (pc := 6) (lv' := [(0, .ref (r 0)), (1, .int (nI ro)), (2, .int (nI k)), (3, .int (nI 7))]) F dX8_act_6 rfl (by decide) [1, 2, 3, 0] rfl ?_
  refine z_iload_n (pc := 7) F dX8_act_7 rfl 3 rfl ?_
  · refine z_tableIn (off := 217) (tgt := 225) (pc := 8) F dX8_act_8 (by decide) (by decide) (by decide) (by decide) ?_
    refine z_aload_n (pc := 225) F dX8_act_225 rfl 0 rfl ?_
    refine z_callVW (pc := 226) (q0 := 0) (ci := 8) (rest := []) F (c_X8_looked_s l E r S h ab f hg j (by first | assumption | rfl | omega) (by first | assumption | rfl | omega) (by first | assumption | rfl | omega)) 0 ww_Model_116 (by decide +kernel) rfl ⟨Nat.le_of_ble_eq_true rfl, Nat.le_of_ble_eq_true rfl⟩ ⟨Nat.le_of_ble_eq_true rfl, Nat.le_of_ble_eq_true rfl⟩ rfl rfl rfl rfl (Nat.le_of_ble_eq_true rfl) dX8_act_226 (fun v_ w1_ hp => ?_)
    obtain ⟨rfl, rfl⟩ := hp
    show Z X (0) (0) (mw E r (mst S (nI h) ab f (upd hg j 1))) [(0, .ref (r 0)), (1, .int (nI ro)), (2, .int (nI k)), (3, .int (nI 7))] 229 [.int (nI j)]
    refine z_istore (pc := 229) (lv' := [(0, .ref (r 0)), (1, .int (nI ro)), (2, .int (nI k)), (3, .int (nI 7)), (4, .int (nI j))]) F dX8_act_229 (by decide) [1, 2, 3, 4, 0] rfl ?_
    refine z_aload_n (pc := 231) F dX8_act_231 rfl 0 rfl ?_
    refine z_iload (pc := 232) F dX8_act_232 4 rfl ?_
    refine z_iconst (pc := 234) (v := (-1)) F dX8_act_234 (by decide) ?_
    refine z_icmp_ne (pc := 235) (tgt := 242) F dX8_act_235 (by decide) (fun c235 => ?_) (fun c235 => absurd c235 (nI_nm (by omega)))
    refine z_iload (pc := 242) F dX8_act_242 4 rfl ?_
    refine z_i2l (pc := 244) F dX8_act_244 ?_
    rw [show ((nI j).toInt64) = lN j from (nI_l (by omega))]
    refine z_callVW (pc := 245) (q0 := 0) (ci := 8) (rest := []) F (c_X8_push l E r S h ab f (upd hg j 1) (lN j) (by first | assumption | rfl | omega)) 1 ww_Model_112 (by decide +kernel) rfl ⟨Nat.le_of_ble_eq_true rfl, Nat.le_of_ble_eq_true rfl⟩ ⟨Nat.le_of_ble_eq_true rfl, Nat.le_of_ble_eq_true rfl⟩ rfl rfl rfl rfl (Nat.le_of_ble_eq_true rfl) dX8_act_245 (fun v_ w1_ hp => ?_)
    obtain ⟨rfl, rfl⟩ := hp
    show Z X (0) (0) (mw E r (mst S (nI (h + 1)) ab (vp_updL f h (lN j)) (upd hg j 1))) [(0, .ref (r 0)), (1, .int (nI ro)), (2, .int (nI k)), (3, .int (nI 7)), (4, .int (nI j))] 248 []
    refine z_goto (pc := 248) (tgt := 416) F dX8_act_248 (by decide) ?_
    exact z_vret (pc := 416) F hR dX8_act_416 (Nat.le_of_ble_eq_true rfl) (Nat.le_of_ble_eq_true rfl) ⟨rfl, rfl⟩
set_option maxHeartbeats 4000000 in
set_option maxRecDepth 100000 in
theorem c_X8_act_3n (l : Launch) (E : zE) (r : Nat → Nat) (S : zS) (h : Nat) (ab : Int32) (f : Nat → Int64) (hg : Nat → Int32) (ro : Nat) (k : Nat) (hh : h < 238) (hk : k < 1440) (hro : ro < 60) (hc : za S 11 k = nI 3) (hv : f h = -1) : Ct l yX8_act cX8_act 9 (none) ({ frames := 2, cells := 0, slots := 0, locals := 60 } : Room) E (mw E r (mst S (nI (h + 1)) ab f hg)) [.ref (r 0), .int (nI ro), .int (nI k)] (fun v_ w_ => v_ = none ∧ w_ = mw E r (mst S (nI (h + 1)) 1 (vp_updL f h 0) hg)) := by
  refine Ct.of (by decide) (Nat.le_of_ble_eq_true rfl) (lv := [(0, .ref (r 0)), (1, .int (nI ro)), (2, .int (nI k))]) rfl ?_
  intro X F hR
  have F : zF X l ({ frames := 2, cells := 0, slots := 0, locals := 60 } : Room) E cX8_act 9 "LiveQueriesModel" := F
  refine z_aload_n (pc := 0) F dX8_act_0 rfl 0 rfl ?_
  refine z_get (pc := 1) (v := .ref (r 11)) F iX8 0 rfl rfl 14 (by decide) tw_872 rfl dX8_act_1 ?_
  refine z_iload_n (pc := 4) F dX8_act_4 rfl 2 rfl ?_
  refine z_ialdN (pc := 5) (f := za S 11) F 11 0 rfl rfl k rfl (by omega) (by decide) dX8_act_5 ?_
  rw [show (za S 11 k) = nI 3 from hc]
  refine z_istore_n (pc := 6) (lv' := [(0, .ref (r 0)), (1, .int (nI ro)), (2, .int (nI k)), (3, .int (nI 3))]) F dX8_act_6 rfl (by decide) [1, 2, 3, 0] rfl ?_
  refine z_iload_n (pc := 7) F dX8_act_7 rfl 3 rfl ?_
  · refine z_tableIn (off := 341) (tgt := 349) (pc := 8) F dX8_act_8 (by decide) (by decide) (by decide) (by decide) ?_
    refine z_iload_n (pc := 349) F dX8_act_349 rfl 3 rfl ?_
    refine z_bipush (pc := 350) (v := 6) F dX8_act_350 (by decide) ?_
    refine z_icmp_ge (pc := 352) (tgt := 391) F dX8_act_352 (by decide) (fun h => absurd h (by decide)) (fun _ => ?_)
    refine z_aload_n (pc := 355) F dX8_act_355 rfl 0 rfl ?_
    refine z_callVW (pc := 356) (q0 := 0) (ci := 8) (rest := []) F (c_X8_looked_n l E r S h ab f hg (by first | assumption | rfl | omega) (by first | assumption | rfl | omega)) 0 ww_Model_116 (by decide +kernel) rfl ⟨Nat.le_of_ble_eq_true rfl, Nat.le_of_ble_eq_true rfl⟩ ⟨Nat.le_of_ble_eq_true rfl, Nat.le_of_ble_eq_true rfl⟩ rfl rfl rfl rfl (Nat.le_of_ble_eq_true rfl) dX8_act_356 (fun v_ w1_ hp => ?_)
    obtain ⟨rfl, rfl⟩ := hp
    show Z X (0) (0) (mw E r (mst S (nI h) 1 f hg)) [(0, .ref (r 0)), (1, .int (nI ro)), (2, .int (nI k)), (3, .int (nI 3))] 359 [.int (-1)]
    refine z_istore (pc := 359) (lv' := [(0, .ref (r 0)), (1, .int (nI ro)), (2, .int (nI k)), (3, .int (nI 3)), (4, .int (-1))]) F dX8_act_359 (by decide) [1, 2, 3, 4, 0] rfl ?_
    refine z_aload_n (pc := 361) F dX8_act_361 rfl 0 rfl ?_
    refine z_iload (pc := 362) F dX8_act_362 4 rfl ?_
    refine z_iconst (pc := 364) (v := (-1)) F dX8_act_364 (by decide) ?_
    refine z_icmp_ne (pc := 365) (tgt := 372) F dX8_act_365 (by decide) (fun h => absurd h (by decide)) (fun _ => ?_)
    refine z_lconst (pc := 368) (v := 0) F dX8_act_368 (by decide) ?_
    refine z_goto (pc := 369) (tgt := 385) F dX8_act_369 (by decide) ?_
    refine z_callVW (pc := 385) (q0 := 0) (ci := 8) (rest := []) F (c_X8_push l E r S h 1 f hg 0 (by first | assumption | rfl | omega)) 1 ww_Model_112 (by decide +kernel) rfl ⟨Nat.le_of_ble_eq_true rfl, Nat.le_of_ble_eq_true rfl⟩ ⟨Nat.le_of_ble_eq_true rfl, Nat.le_of_ble_eq_true rfl⟩ rfl rfl rfl rfl (Nat.le_of_ble_eq_true rfl) dX8_act_385 (fun v_ w1_ hp => ?_)
    obtain ⟨rfl, rfl⟩ := hp
    show Z X (0) (0) (mw E r (mst S (nI (h + 1)) 1 (vp_updL f h 0) hg)) [(0, .ref (r 0)), (1, .int (nI ro)), (2, .int (nI k)), (3, .int (nI 3)), (4, .int (-1))] 388 []
    refine z_goto (pc := 388) (tgt := 416) F dX8_act_388 (by decide) ?_
    exact z_vret (pc := 416) F hR dX8_act_416 (Nat.le_of_ble_eq_true rfl) (Nat.le_of_ble_eq_true rfl) ⟨rfl, rfl⟩
set_option maxHeartbeats 4000000 in
set_option maxRecDepth 100000 in
theorem c_X8_act_3s (l : Launch) (E : zE) (r : Nat → Nat) (S : zS) (h : Nat) (ab : Int32) (f : Nat → Int64) (hg : Nat → Int32) (ro : Nat) (k : Nat) (j : Nat) (hh : h < 238) (hk : k < 1440) (hro : ro < 60) (hc : za S 11 k = nI 3) (hv : f h = lN j) (hj : j < 60) : Ct l yX8_act cX8_act 9 (none) ({ frames := 2, cells := 0, slots := 0, locals := 60 } : Room) E (mw E r (mst S (nI (h + 1)) ab f hg)) [.ref (r 0), .int (nI ro), .int (nI k)] (fun v_ w_ => v_ = none ∧ w_ = mw E r (mst S (nI (h + 1)) ab (vp_updL f h (zb S 4 (3 * j + 3 - 3))) (upd hg j 1))) := by
  refine Ct.of (by decide) (Nat.le_of_ble_eq_true rfl) (lv := [(0, .ref (r 0)), (1, .int (nI ro)), (2, .int (nI k))]) rfl ?_
  intro X F hR
  have F : zF X l ({ frames := 2, cells := 0, slots := 0, locals := 60 } : Room) E cX8_act 9 "LiveQueriesModel" := F
  refine z_aload_n (pc := 0) F dX8_act_0 rfl 0 rfl ?_
  refine z_get (pc := 1) (v := .ref (r 11)) F iX8 0 rfl rfl 14 (by decide) tw_872 rfl dX8_act_1 ?_
  refine z_iload_n (pc := 4) F dX8_act_4 rfl 2 rfl ?_
  refine z_ialdN (pc := 5) (f := za S 11) F 11 0 rfl rfl k rfl (by omega) (by decide) dX8_act_5 ?_
  rw [show (za S 11 k) = nI 3 from hc]
  refine z_istore_n (pc := 6) (lv' := [(0, .ref (r 0)), (1, .int (nI ro)), (2, .int (nI k)), (3, .int (nI 3))]) F dX8_act_6 rfl (by decide) [1, 2, 3, 0] rfl ?_
  refine z_iload_n (pc := 7) F dX8_act_7 rfl 3 rfl ?_
  · refine z_tableIn (off := 341) (tgt := 349) (pc := 8) F dX8_act_8 (by decide) (by decide) (by decide) (by decide) ?_
    refine z_iload_n (pc := 349) F dX8_act_349 rfl 3 rfl ?_
    refine z_bipush (pc := 350) (v := 6) F dX8_act_350 (by decide) ?_
    refine z_icmp_ge (pc := 352) (tgt := 391) F dX8_act_352 (by decide) (fun h => absurd h (by decide)) (fun _ => ?_)
    refine z_aload_n (pc := 355) F dX8_act_355 rfl 0 rfl ?_
    refine z_callVW (pc := 356) (q0 := 0) (ci := 8) (rest := []) F (c_X8_looked_s l E r S h ab f hg j (by first | assumption | rfl | omega) (by first | assumption | rfl | omega) (by first | assumption | rfl | omega)) 0 ww_Model_116 (by decide +kernel) rfl ⟨Nat.le_of_ble_eq_true rfl, Nat.le_of_ble_eq_true rfl⟩ ⟨Nat.le_of_ble_eq_true rfl, Nat.le_of_ble_eq_true rfl⟩ rfl rfl rfl rfl (Nat.le_of_ble_eq_true rfl) dX8_act_356 (fun v_ w1_ hp => ?_)
    obtain ⟨rfl, rfl⟩ := hp
    show Z X (0) (0) (mw E r (mst S (nI h) ab f (upd hg j 1))) [(0, .ref (r 0)), (1, .int (nI ro)), (2, .int (nI k)), (3, .int (nI 3))] 359 [.int (nI j)]
    refine z_istore (pc := 359) (lv' := [(0, .ref (r 0)), (1, .int (nI ro)), (2, .int (nI k)), (3, .int (nI 3)), (4, .int (nI j))]) F dX8_act_359 (by decide) [1, 2, 3, 4, 0] rfl ?_
    refine z_aload_n (pc := 361) F dX8_act_361 rfl 0 rfl ?_
    refine z_iload (pc := 362) F dX8_act_362 4 rfl ?_
    refine z_iconst (pc := 364) (v := (-1)) F dX8_act_364 (by decide) ?_
    refine z_icmp_ne (pc := 365) (tgt := 372) F dX8_act_365 (by decide) (fun c365 => ?_) (fun c365 => absurd c365 (nI_nm (by omega)))
    refine z_aload_n (pc := 372) F dX8_act_372 rfl 0 rfl ?_
    refine z_get (pc := 373) (v := .ref (r 4)) F iX8 0 rfl rfl 6 (by decide) tw_864 rfl dX8_act_373 ?_
    refine z_iconst (pc := 376) (v := 3) F dX8_act_376 (by decide) ?_
    refine z_iload (pc := 377) F dX8_act_377 4 rfl ?_
    refine z_imul (pc := 379) F dX8_act_379 ?_
    refine z_iload_n (pc := 380) F dX8_act_380 rfl 3 rfl ?_
    refine z_iadd (pc := 381) F dX8_act_381 ?_
    refine z_iconst (pc := 382) (v := 3) F dX8_act_382 (by decide) ?_
    refine z_isub (pc := 383) F dX8_act_383 ?_
    refine z_laldN (pc := 384) (f := zb S 4) F 4 1 rfl rfl (3 * j + 3 - 3) (ix3 (by decide)) (by omega) (by decide) dX8_act_384 ?_
    refine z_callVW (pc := 385) (q0 := 0) (ci := 8) (rest := []) F (c_X8_push l E r S h ab f (upd hg j 1) (zb S 4 (3 * j + 3 - 3)) (by first | assumption | rfl | omega)) 1 ww_Model_112 (by decide +kernel) rfl ⟨Nat.le_of_ble_eq_true rfl, Nat.le_of_ble_eq_true rfl⟩ ⟨Nat.le_of_ble_eq_true rfl, Nat.le_of_ble_eq_true rfl⟩ rfl rfl rfl rfl (Nat.le_of_ble_eq_true rfl) dX8_act_385 (fun v_ w1_ hp => ?_)
    obtain ⟨rfl, rfl⟩ := hp
    show Z X (0) (0) (mw E r (mst S (nI (h + 1)) ab (vp_updL f h (zb S 4 (3 * j + 3 - 3))) (upd hg j 1))) [(0, .ref (r 0)), (1, .int (nI ro)), (2, .int (nI k)), (3, .int (nI 3)), (4, .int (nI j))] 388 []
    refine z_goto (pc := 388) (tgt := 416) F dX8_act_388 (by decide) ?_
    exact z_vret (pc := 416) F hR dX8_act_416 (Nat.le_of_ble_eq_true rfl) (Nat.le_of_ble_eq_true rfl) ⟨rfl, rfl⟩
set_option maxHeartbeats 4000000 in
set_option maxRecDepth 100000 in
theorem c_X8_act_4n (l : Launch) (E : zE) (r : Nat → Nat) (S : zS) (h : Nat) (ab : Int32) (f : Nat → Int64) (hg : Nat → Int32) (ro : Nat) (k : Nat) (hh : h < 238) (hk : k < 1440) (hro : ro < 60) (hc : za S 11 k = nI 4) (hv : f h = -1) : Ct l yX8_act cX8_act 9 (none) ({ frames := 2, cells := 0, slots := 0, locals := 60 } : Room) E (mw E r (mst S (nI (h + 1)) ab f hg)) [.ref (r 0), .int (nI ro), .int (nI k)] (fun v_ w_ => v_ = none ∧ w_ = mw E r (mst S (nI (h + 1)) 1 (vp_updL f h 0) hg)) := by
  refine Ct.of (by decide) (Nat.le_of_ble_eq_true rfl) (lv := [(0, .ref (r 0)), (1, .int (nI ro)), (2, .int (nI k))]) rfl ?_
  intro X F hR
  have F : zF X l ({ frames := 2, cells := 0, slots := 0, locals := 60 } : Room) E cX8_act 9 "LiveQueriesModel" := F
  refine z_aload_n (pc := 0) F dX8_act_0 rfl 0 rfl ?_
  refine z_get (pc := 1) (v := .ref (r 11)) F iX8 0 rfl rfl 14 (by decide) tw_872 rfl dX8_act_1 ?_
  refine z_iload_n (pc := 4) F dX8_act_4 rfl 2 rfl ?_
  refine z_ialdN (pc := 5) (f := za S 11) F 11 0 rfl rfl k rfl (by omega) (by decide) dX8_act_5 ?_
  rw [show (za S 11 k) = nI 4 from hc]
  refine z_istore_n (pc := 6) (lv' := [(0, .ref (r 0)), (1, .int (nI ro)), (2, .int (nI k)), (3, .int (nI 4))]) F dX8_act_6 rfl (by decide) [1, 2, 3, 0] rfl ?_
  refine z_iload_n (pc := 7) F dX8_act_7 rfl 3 rfl ?_
  · refine z_tableIn (off := 341) (tgt := 349) (pc := 8) F dX8_act_8 (by decide) (by decide) (by decide) (by decide) ?_
    refine z_iload_n (pc := 349) F dX8_act_349 rfl 3 rfl ?_
    refine z_bipush (pc := 350) (v := 6) F dX8_act_350 (by decide) ?_
    refine z_icmp_ge (pc := 352) (tgt := 391) F dX8_act_352 (by decide) (fun h => absurd h (by decide)) (fun _ => ?_)
    refine z_aload_n (pc := 355) F dX8_act_355 rfl 0 rfl ?_
    refine z_callVW (pc := 356) (q0 := 0) (ci := 8) (rest := []) F (c_X8_looked_n l E r S h ab f hg (by first | assumption | rfl | omega) (by first | assumption | rfl | omega)) 0 ww_Model_116 (by decide +kernel) rfl ⟨Nat.le_of_ble_eq_true rfl, Nat.le_of_ble_eq_true rfl⟩ ⟨Nat.le_of_ble_eq_true rfl, Nat.le_of_ble_eq_true rfl⟩ rfl rfl rfl rfl (Nat.le_of_ble_eq_true rfl) dX8_act_356 (fun v_ w1_ hp => ?_)
    obtain ⟨rfl, rfl⟩ := hp
    show Z X (0) (0) (mw E r (mst S (nI h) 1 f hg)) [(0, .ref (r 0)), (1, .int (nI ro)), (2, .int (nI k)), (3, .int (nI 4))] 359 [.int (-1)]
    refine z_istore (pc := 359) (lv' := [(0, .ref (r 0)), (1, .int (nI ro)), (2, .int (nI k)), (3, .int (nI 4)), (4, .int (-1))]) F dX8_act_359 (by decide) [1, 2, 3, 4, 0] rfl ?_
    refine z_aload_n (pc := 361) F dX8_act_361 rfl 0 rfl ?_
    refine z_iload (pc := 362) F dX8_act_362 4 rfl ?_
    refine z_iconst (pc := 364) (v := (-1)) F dX8_act_364 (by decide) ?_
    refine z_icmp_ne (pc := 365) (tgt := 372) F dX8_act_365 (by decide) (fun h => absurd h (by decide)) (fun _ => ?_)
    refine z_lconst (pc := 368) (v := 0) F dX8_act_368 (by decide) ?_
    refine z_goto (pc := 369) (tgt := 385) F dX8_act_369 (by decide) ?_
    refine z_callVW (pc := 385) (q0 := 0) (ci := 8) (rest := []) F (c_X8_push l E r S h 1 f hg 0 (by first | assumption | rfl | omega)) 1 ww_Model_112 (by decide +kernel) rfl ⟨Nat.le_of_ble_eq_true rfl, Nat.le_of_ble_eq_true rfl⟩ ⟨Nat.le_of_ble_eq_true rfl, Nat.le_of_ble_eq_true rfl⟩ rfl rfl rfl rfl (Nat.le_of_ble_eq_true rfl) dX8_act_385 (fun v_ w1_ hp => ?_)
    obtain ⟨rfl, rfl⟩ := hp
    show Z X (0) (0) (mw E r (mst S (nI (h + 1)) 1 (vp_updL f h 0) hg)) [(0, .ref (r 0)), (1, .int (nI ro)), (2, .int (nI k)), (3, .int (nI 4)), (4, .int (-1))] 388 []
    refine z_goto (pc := 388) (tgt := 416) F dX8_act_388 (by decide) ?_
    exact z_vret (pc := 416) F hR dX8_act_416 (Nat.le_of_ble_eq_true rfl) (Nat.le_of_ble_eq_true rfl) ⟨rfl, rfl⟩
set_option maxHeartbeats 4000000 in
set_option maxRecDepth 100000 in
theorem c_X8_act_4s (l : Launch) (E : zE) (r : Nat → Nat) (S : zS) (h : Nat) (ab : Int32) (f : Nat → Int64) (hg : Nat → Int32) (ro : Nat) (k : Nat) (j : Nat) (hh : h < 238) (hk : k < 1440) (hro : ro < 60) (hc : za S 11 k = nI 4) (hv : f h = lN j) (hj : j < 60) : Ct l yX8_act cX8_act 9 (none) ({ frames := 2, cells := 0, slots := 0, locals := 60 } : Room) E (mw E r (mst S (nI (h + 1)) ab f hg)) [.ref (r 0), .int (nI ro), .int (nI k)] (fun v_ w_ => v_ = none ∧ w_ = mw E r (mst S (nI (h + 1)) ab (vp_updL f h (zb S 4 (3 * j + 4 - 3))) (upd hg j 1))) := by
  refine Ct.of (by decide) (Nat.le_of_ble_eq_true rfl) (lv := [(0, .ref (r 0)), (1, .int (nI ro)), (2, .int (nI k))]) rfl ?_
  intro X F hR
  have F : zF X l ({ frames := 2, cells := 0, slots := 0, locals := 60 } : Room) E cX8_act 9 "LiveQueriesModel" := F
  refine z_aload_n (pc := 0) F dX8_act_0 rfl 0 rfl ?_
  refine z_get (pc := 1) (v := .ref (r 11)) F iX8 0 rfl rfl 14 (by decide) tw_872 rfl dX8_act_1 ?_
  refine z_iload_n (pc := 4) F dX8_act_4 rfl 2 rfl ?_
  refine z_ialdN (pc := 5) (f := za S 11) F 11 0 rfl rfl k rfl (by omega) (by decide) dX8_act_5 ?_
  rw [show (za S 11 k) = nI 4 from hc]
  refine z_istore_n (pc := 6) (lv' := [(0, .ref (r 0)), (1, .int (nI ro)), (2, .int (nI k)), (3, .int (nI 4))]) F dX8_act_6 rfl (by decide) [1, 2, 3, 0] rfl ?_
  refine z_iload_n (pc := 7) F dX8_act_7 rfl 3 rfl ?_
  · refine z_tableIn (off := 341) (tgt := 349) (pc := 8) F dX8_act_8 (by decide) (by decide) (by decide) (by decide) ?_
    refine z_iload_n (pc := 349) F dX8_act_349 rfl 3 rfl ?_
    refine z_bipush (pc := 350) (v := 6) F dX8_act_350 (by decide) ?_
    refine z_icmp_ge (pc := 352) (tgt := 391) F dX8_act_352 (by decide) (fun h => absurd h (by decide)) (fun _ => ?_)
    refine z_aload_n (pc := 355) F dX8_act_355 rfl 0 rfl ?_
    refine z_callVW (pc := 356) (q0 := 0) (ci := 8) (rest := []) F (c_X8_looked_s l E r S h ab f hg j (by first | assumption | rfl | omega) (by first | assumption | rfl | omega) (by first | assumption | rfl | omega)) 0 ww_Model_116 (by decide +kernel) rfl ⟨Nat.le_of_ble_eq_true rfl, Nat.le_of_ble_eq_true rfl⟩ ⟨Nat.le_of_ble_eq_true rfl, Nat.le_of_ble_eq_true rfl⟩ rfl rfl rfl rfl (Nat.le_of_ble_eq_true rfl) dX8_act_356 (fun v_ w1_ hp => ?_)
    obtain ⟨rfl, rfl⟩ := hp
    show Z X (0) (0) (mw E r (mst S (nI h) ab f (upd hg j 1))) [(0, .ref (r 0)), (1, .int (nI ro)), (2, .int (nI k)), (3, .int (nI 4))] 359 [.int (nI j)]
    refine z_istore (pc := 359) (lv' := [(0, .ref (r 0)), (1, .int (nI ro)), (2, .int (nI k)), (3, .int (nI 4)), (4, .int (nI j))]) F dX8_act_359 (by decide) [1, 2, 3, 4, 0] rfl ?_
    refine z_aload_n (pc := 361) F dX8_act_361 rfl 0 rfl ?_
    refine z_iload (pc := 362) F dX8_act_362 4 rfl ?_
    refine z_iconst (pc := 364) (v := (-1)) F dX8_act_364 (by decide) ?_
    refine z_icmp_ne (pc := 365) (tgt := 372) F dX8_act_365 (by decide) (fun c365 => ?_) (fun c365 => absurd c365 (nI_nm (by omega)))
    refine z_aload_n (pc := 372) F dX8_act_372 rfl 0 rfl ?_
    refine z_get (pc := 373) (v := .ref (r 4)) F iX8 0 rfl rfl 6 (by decide) tw_864 rfl dX8_act_373 ?_
    refine z_iconst (pc := 376) (v := 3) F dX8_act_376 (by decide) ?_
    refine z_iload (pc := 377) F dX8_act_377 4 rfl ?_
    refine z_imul (pc := 379) F dX8_act_379 ?_
    refine z_iload_n (pc := 380) F dX8_act_380 rfl 3 rfl ?_
    refine z_iadd (pc := 381) F dX8_act_381 ?_
    refine z_iconst (pc := 382) (v := 3) F dX8_act_382 (by decide) ?_
    refine z_isub (pc := 383) F dX8_act_383 ?_
    refine z_laldN (pc := 384) (f := zb S 4) F 4 1 rfl rfl (3 * j + 4 - 3) (ix3 (by decide)) (by omega) (by decide) dX8_act_384 ?_
    refine z_callVW (pc := 385) (q0 := 0) (ci := 8) (rest := []) F (c_X8_push l E r S h ab f (upd hg j 1) (zb S 4 (3 * j + 4 - 3)) (by first | assumption | rfl | omega)) 1 ww_Model_112 (by decide +kernel) rfl ⟨Nat.le_of_ble_eq_true rfl, Nat.le_of_ble_eq_true rfl⟩ ⟨Nat.le_of_ble_eq_true rfl, Nat.le_of_ble_eq_true rfl⟩ rfl rfl rfl rfl (Nat.le_of_ble_eq_true rfl) dX8_act_385 (fun v_ w1_ hp => ?_)
    obtain ⟨rfl, rfl⟩ := hp
    show Z X (0) (0) (mw E r (mst S (nI (h + 1)) ab (vp_updL f h (zb S 4 (3 * j + 4 - 3))) (upd hg j 1))) [(0, .ref (r 0)), (1, .int (nI ro)), (2, .int (nI k)), (3, .int (nI 4)), (4, .int (nI j))] 388 []
    refine z_goto (pc := 388) (tgt := 416) F dX8_act_388 (by decide) ?_
    exact z_vret (pc := 416) F hR dX8_act_416 (Nat.le_of_ble_eq_true rfl) (Nat.le_of_ble_eq_true rfl) ⟨rfl, rfl⟩
set_option maxHeartbeats 4000000 in
set_option maxRecDepth 100000 in
theorem c_X8_act_5n (l : Launch) (E : zE) (r : Nat → Nat) (S : zS) (h : Nat) (ab : Int32) (f : Nat → Int64) (hg : Nat → Int32) (ro : Nat) (k : Nat) (hh : h < 238) (hk : k < 1440) (hro : ro < 60) (hc : za S 11 k = nI 5) (hv : f h = -1) : Ct l yX8_act cX8_act 9 (none) ({ frames := 2, cells := 0, slots := 0, locals := 60 } : Room) E (mw E r (mst S (nI (h + 1)) ab f hg)) [.ref (r 0), .int (nI ro), .int (nI k)] (fun v_ w_ => v_ = none ∧ w_ = mw E r (mst S (nI (h + 1)) 1 (vp_updL f h 0) hg)) := by
  refine Ct.of (by decide) (Nat.le_of_ble_eq_true rfl) (lv := [(0, .ref (r 0)), (1, .int (nI ro)), (2, .int (nI k))]) rfl ?_
  intro X F hR
  have F : zF X l ({ frames := 2, cells := 0, slots := 0, locals := 60 } : Room) E cX8_act 9 "LiveQueriesModel" := F
  refine z_aload_n (pc := 0) F dX8_act_0 rfl 0 rfl ?_
  refine z_get (pc := 1) (v := .ref (r 11)) F iX8 0 rfl rfl 14 (by decide) tw_872 rfl dX8_act_1 ?_
  refine z_iload_n (pc := 4) F dX8_act_4 rfl 2 rfl ?_
  refine z_ialdN (pc := 5) (f := za S 11) F 11 0 rfl rfl k rfl (by omega) (by decide) dX8_act_5 ?_
  rw [show (za S 11 k) = nI 5 from hc]
  refine z_istore_n (pc := 6) (lv' := [(0, .ref (r 0)), (1, .int (nI ro)), (2, .int (nI k)), (3, .int (nI 5))]) F dX8_act_6 rfl (by decide) [1, 2, 3, 0] rfl ?_
  refine z_iload_n (pc := 7) F dX8_act_7 rfl 3 rfl ?_
  · refine z_tableIn (off := 341) (tgt := 349) (pc := 8) F dX8_act_8 (by decide) (by decide) (by decide) (by decide) ?_
    refine z_iload_n (pc := 349) F dX8_act_349 rfl 3 rfl ?_
    refine z_bipush (pc := 350) (v := 6) F dX8_act_350 (by decide) ?_
    refine z_icmp_ge (pc := 352) (tgt := 391) F dX8_act_352 (by decide) (fun h => absurd h (by decide)) (fun _ => ?_)
    refine z_aload_n (pc := 355) F dX8_act_355 rfl 0 rfl ?_
    refine z_callVW (pc := 356) (q0 := 0) (ci := 8) (rest := []) F (c_X8_looked_n l E r S h ab f hg (by first | assumption | rfl | omega) (by first | assumption | rfl | omega)) 0 ww_Model_116 (by decide +kernel) rfl ⟨Nat.le_of_ble_eq_true rfl, Nat.le_of_ble_eq_true rfl⟩ ⟨Nat.le_of_ble_eq_true rfl, Nat.le_of_ble_eq_true rfl⟩ rfl rfl rfl rfl (Nat.le_of_ble_eq_true rfl) dX8_act_356 (fun v_ w1_ hp => ?_)
    obtain ⟨rfl, rfl⟩ := hp
    show Z X (0) (0) (mw E r (mst S (nI h) 1 f hg)) [(0, .ref (r 0)), (1, .int (nI ro)), (2, .int (nI k)), (3, .int (nI 5))] 359 [.int (-1)]
    refine z_istore (pc := 359) (lv' := [(0, .ref (r 0)), (1, .int (nI ro)), (2, .int (nI k)), (3, .int (nI 5)), (4, .int (-1))]) F dX8_act_359 (by decide) [1, 2, 3, 4, 0] rfl ?_
    refine z_aload_n (pc := 361) F dX8_act_361 rfl 0 rfl ?_
    refine z_iload (pc := 362) F dX8_act_362 4 rfl ?_
    refine z_iconst (pc := 364) (v := (-1)) F dX8_act_364 (by decide) ?_
    refine z_icmp_ne (pc := 365) (tgt := 372) F dX8_act_365 (by decide) (fun h => absurd h (by decide)) (fun _ => ?_)
    refine z_lconst (pc := 368) (v := 0) F dX8_act_368 (by decide) ?_
    refine z_goto (pc := 369) (tgt := 385) F dX8_act_369 (by decide) ?_
    refine z_callVW (pc := 385) (q0 := 0) (ci := 8) (rest := []) F (c_X8_push l E r S h 1 f hg 0 (by first | assumption | rfl | omega)) 1 ww_Model_112 (by decide +kernel) rfl ⟨Nat.le_of_ble_eq_true rfl, Nat.le_of_ble_eq_true rfl⟩ ⟨Nat.le_of_ble_eq_true rfl, Nat.le_of_ble_eq_true rfl⟩ rfl rfl rfl rfl (Nat.le_of_ble_eq_true rfl) dX8_act_385 (fun v_ w1_ hp => ?_)
    obtain ⟨rfl, rfl⟩ := hp
    show Z X (0) (0) (mw E r (mst S (nI (h + 1)) 1 (vp_updL f h 0) hg)) [(0, .ref (r 0)), (1, .int (nI ro)), (2, .int (nI k)), (3, .int (nI 5)), (4, .int (-1))] 388 []
    refine z_goto (pc := 388) (tgt := 416) F dX8_act_388 (by decide) ?_
    exact z_vret (pc := 416) F hR dX8_act_416 (Nat.le_of_ble_eq_true rfl) (Nat.le_of_ble_eq_true rfl) ⟨rfl, rfl⟩
set_option maxHeartbeats 4000000 in
set_option maxRecDepth 100000 in
theorem c_X8_act_5s (l : Launch) (E : zE) (r : Nat → Nat) (S : zS) (h : Nat) (ab : Int32) (f : Nat → Int64) (hg : Nat → Int32) (ro : Nat) (k : Nat) (j : Nat) (hh : h < 238) (hk : k < 1440) (hro : ro < 60) (hc : za S 11 k = nI 5) (hv : f h = lN j) (hj : j < 60) : Ct l yX8_act cX8_act 9 (none) ({ frames := 2, cells := 0, slots := 0, locals := 60 } : Room) E (mw E r (mst S (nI (h + 1)) ab f hg)) [.ref (r 0), .int (nI ro), .int (nI k)] (fun v_ w_ => v_ = none ∧ w_ = mw E r (mst S (nI (h + 1)) ab (vp_updL f h (zb S 4 (3 * j + 5 - 3))) (upd hg j 1))) := by
  refine Ct.of (by decide) (Nat.le_of_ble_eq_true rfl) (lv := [(0, .ref (r 0)), (1, .int (nI ro)), (2, .int (nI k))]) rfl ?_
  intro X F hR
  have F : zF X l ({ frames := 2, cells := 0, slots := 0, locals := 60 } : Room) E cX8_act 9 "LiveQueriesModel" := F
  refine z_aload_n (pc := 0) F dX8_act_0 rfl 0 rfl ?_
  refine z_get (pc := 1) (v := .ref (r 11)) F iX8 0 rfl rfl 14 (by decide) tw_872 rfl dX8_act_1 ?_
  refine z_iload_n (pc := 4) F dX8_act_4 rfl 2 rfl ?_
  refine z_ialdN (pc := 5) (f := za S 11) F 11 0 rfl rfl k rfl (by omega) (by decide) dX8_act_5 ?_
  rw [show (za S 11 k) = nI 5 from hc]
  refine z_istore_n (pc := 6) (lv' := [(0, .ref (r 0)), (1, .int (nI ro)), (2, .int (nI k)), (3, .int (nI 5))]) F dX8_act_6 rfl (by decide) [1, 2, 3, 0] rfl ?_
  refine z_iload_n (pc := 7) F dX8_act_7 rfl 3 rfl ?_
  · refine z_tableIn (off := 341) (tgt := 349) (pc := 8) F dX8_act_8 (by decide) (by decide) (by decide) (by decide) ?_
    refine z_iload_n (pc := 349) F dX8_act_349 rfl 3 rfl ?_
    refine z_bipush (pc := 350) (v := 6) F dX8_act_350 (by decide) ?_
    refine z_icmp_ge (pc := 352) (tgt := 391) F dX8_act_352 (by decide) (fun h => absurd h (by decide)) (fun _ => ?_)
    refine z_aload_n (pc := 355) F dX8_act_355 rfl 0 rfl ?_
    refine z_callVW (pc := 356) (q0 := 0) (ci := 8) (rest := []) F (c_X8_looked_s l E r S h ab f hg j (by first | assumption | rfl | omega) (by first | assumption | rfl | omega) (by first | assumption | rfl | omega)) 0 ww_Model_116 (by decide +kernel) rfl ⟨Nat.le_of_ble_eq_true rfl, Nat.le_of_ble_eq_true rfl⟩ ⟨Nat.le_of_ble_eq_true rfl, Nat.le_of_ble_eq_true rfl⟩ rfl rfl rfl rfl (Nat.le_of_ble_eq_true rfl) dX8_act_356 (fun v_ w1_ hp => ?_)
    obtain ⟨rfl, rfl⟩ := hp
    show Z X (0) (0) (mw E r (mst S (nI h) ab f (upd hg j 1))) [(0, .ref (r 0)), (1, .int (nI ro)), (2, .int (nI k)), (3, .int (nI 5))] 359 [.int (nI j)]
    refine z_istore (pc := 359) (lv' := [(0, .ref (r 0)), (1, .int (nI ro)), (2, .int (nI k)), (3, .int (nI 5)), (4, .int (nI j))]) F dX8_act_359 (by decide) [1, 2, 3, 4, 0] rfl ?_
    refine z_aload_n (pc := 361) F dX8_act_361 rfl 0 rfl ?_
    refine z_iload (pc := 362) F dX8_act_362 4 rfl ?_
    refine z_iconst (pc := 364) (v := (-1)) F dX8_act_364 (by decide) ?_
    refine z_icmp_ne (pc := 365) (tgt := 372) F dX8_act_365 (by decide) (fun c365 => ?_) (fun c365 => absurd c365 (nI_nm (by omega)))
    refine z_aload_n (pc := 372) F dX8_act_372 rfl 0 rfl ?_
    refine z_get (pc := 373) (v := .ref (r 4)) F iX8 0 rfl rfl 6 (by decide) tw_864 rfl dX8_act_373 ?_
    refine z_iconst (pc := 376) (v := 3) F dX8_act_376 (by decide) ?_
    refine z_iload (pc := 377) F dX8_act_377 4 rfl ?_
    refine z_imul (pc := 379) F dX8_act_379 ?_
    refine z_iload_n (pc := 380) F dX8_act_380 rfl 3 rfl ?_
    refine z_iadd (pc := 381) F dX8_act_381 ?_
    refine z_iconst (pc := 382) (v := 3) F dX8_act_382 (by decide) ?_
    refine z_isub (pc := 383) F dX8_act_383 ?_
    refine z_laldN (pc := 384) (f := zb S 4) F 4 1 rfl rfl (3 * j + 5 - 3) (ix3 (by decide)) (by omega) (by decide) dX8_act_384 ?_
    refine z_callVW (pc := 385) (q0 := 0) (ci := 8) (rest := []) F (c_X8_push l E r S h ab f (upd hg j 1) (zb S 4 (3 * j + 5 - 3)) (by first | assumption | rfl | omega)) 1 ww_Model_112 (by decide +kernel) rfl ⟨Nat.le_of_ble_eq_true rfl, Nat.le_of_ble_eq_true rfl⟩ ⟨Nat.le_of_ble_eq_true rfl, Nat.le_of_ble_eq_true rfl⟩ rfl rfl rfl rfl (Nat.le_of_ble_eq_true rfl) dX8_act_385 (fun v_ w1_ hp => ?_)
    obtain ⟨rfl, rfl⟩ := hp
    show Z X (0) (0) (mw E r (mst S (nI (h + 1)) ab (vp_updL f h (zb S 4 (3 * j + 5 - 3))) (upd hg j 1))) [(0, .ref (r 0)), (1, .int (nI ro)), (2, .int (nI k)), (3, .int (nI 5)), (4, .int (nI j))] 388 []
    refine z_goto (pc := 388) (tgt := 416) F dX8_act_388 (by decide) ?_
    exact z_vret (pc := 416) F hR dX8_act_416 (Nat.le_of_ble_eq_true rfl) (Nat.le_of_ble_eq_true rfl) ⟨rfl, rfl⟩
set_option maxHeartbeats 4000000 in
set_option maxRecDepth 100000 in
theorem c_X8_act_8n (l : Launch) (E : zE) (r : Nat → Nat) (S : zS) (h : Nat) (ab : Int32) (f : Nat → Int64) (hg : Nat → Int32) (ro : Nat) (k : Nat) (hh : h < 238) (hk : k < 1440) (hro : ro < 60) (hc : za S 11 k = nI 8) (hv : f h = -1) : Ct l yX8_act cX8_act 9 (none) ({ frames := 2, cells := 0, slots := 0, locals := 60 } : Room) E (mw E r (mst S (nI (h + 1 + 1)) ab f hg)) [.ref (r 0), .int (nI ro), .int (nI k)] (fun v_ w_ => v_ = none ∧ w_ = mw E r (mst S (nI (h + 1)) 1 (vp_updL f h 0) hg)) := by
  refine Ct.of (by decide) (Nat.le_of_ble_eq_true rfl) (lv := [(0, .ref (r 0)), (1, .int (nI ro)), (2, .int (nI k))]) rfl ?_
  intro X F hR
  have F : zF X l ({ frames := 2, cells := 0, slots := 0, locals := 60 } : Room) E cX8_act 9 "LiveQueriesModel" := F
  refine z_aload_n (pc := 0) F dX8_act_0 rfl 0 rfl ?_
  refine z_get (pc := 1) (v := .ref (r 11)) F iX8 0 rfl rfl 14 (by decide) tw_872 rfl dX8_act_1 ?_
  refine z_iload_n (pc := 4) F dX8_act_4 rfl 2 rfl ?_
  refine z_ialdN (pc := 5) (f := za S 11) F 11 0 rfl rfl k rfl (by omega) (by decide) dX8_act_5 ?_
  rw [show (za S 11 k) = nI 8 from hc]
  refine z_istore_n (pc := 6) (lv' := [(0, .ref (r 0)), (1, .int (nI ro)), (2, .int (nI k)), (3, .int (nI 8))]) F dX8_act_6 rfl (by decide) [1, 2, 3, 0] rfl ?_
  refine z_iload_n (pc := 7) F dX8_act_7 rfl 3 rfl ?_
  · refine z_tableIn (off := 243) (tgt := 251) (pc := 8) F dX8_act_8 (by decide) (by decide) (by decide) (by decide) ?_
    refine z_aload_n (pc := 251) F dX8_act_251 rfl 0 rfl ?_
    refine z_callVW (pc := 252) (q0 := 0) (ci := 8) (rest := []) F (c_X8_pop l E r S (h + 1) ab f hg (by first | assumption | rfl | omega)) 0 ww_Model_104 (by decide +kernel) rfl ⟨Nat.le_of_ble_eq_true rfl, Nat.le_of_ble_eq_true rfl⟩ ⟨Nat.le_of_ble_eq_true rfl, Nat.le_of_ble_eq_true rfl⟩ rfl rfl rfl rfl (Nat.le_of_ble_eq_true rfl) dX8_act_252 (fun v_ w1_ hp => ?_)
    obtain ⟨rfl, rfl⟩ := hp
    show Z X (0) (0) (mw E r (mst S (nI (h + 1)) ab f hg)) [(0, .ref (r 0)), (1, .int (nI ro)), (2, .int (nI k)), (3, .int (nI 8))] 255 [.long (f (h + 1))]
    refine z_lstore (pc := 255) (lv' := [(0, .ref (r 0)), (1, .int (nI ro)), (2, .int (nI k)), (3, .int (nI 8)), (5, .long (f (h + 1)))]) F dX8_act_255 (by decide) [1, 2, 3, 4, 0] rfl ?_
    refine z_aload_n (pc := 257) F dX8_act_257 rfl 0 rfl ?_
    refine z_callVW (pc := 258) (q0 := 0) (ci := 8) (rest := []) F (c_X8_looked_n l E r S h ab f hg (by first | assumption | rfl | omega) (by first | assumption | rfl | omega)) 0 ww_Model_116 (by decide +kernel) rfl ⟨Nat.le_of_ble_eq_true rfl, Nat.le_of_ble_eq_true rfl⟩ ⟨Nat.le_of_ble_eq_true rfl, Nat.le_of_ble_eq_true rfl⟩ rfl rfl rfl rfl (Nat.le_of_ble_eq_true rfl) dX8_act_258 (fun v_ w1_ hp => ?_)
    obtain ⟨rfl, rfl⟩ := hp
    show Z X (0) (0) (mw E r (mst S (nI h) 1 f hg)) [(0, .ref (r 0)), (1, .int (nI ro)), (2, .int (nI k)), (3, .int (nI 8)), (5, .long (f (h + 1)))] 261 [.int (-1)]
    refine z_istore (pc := 261) (lv' := [(0, .ref (r 0)), (1, .int (nI ro)), (2, .int (nI k)), (3, .int (nI 8)), (4, .int (-1)), (5, .long (f (h + 1)))]) F dX8_act_261 (by decide) [1, 2, 3, 4, 0, 5] rfl ?_
    refine z_iload (pc := 263) F dX8_act_263 4 rfl ?_
    refine z_iconst (pc := 265) (v := (-1)) F dX8_act_265 (by decide) ?_
    refine z_icmp_eq (pc := 266) (tgt := 311) F dX8_act_266 (by decide) (fun _ => ?_) (fun h => absurd h (by decide))
    refine z_aload_n (pc := 311) F dX8_act_311 rfl 0 rfl ?_
    refine z_iconst (pc := 312) (v := 1) F dX8_act_312 (by decide) ?_
    refine z_put (pc := 313) (ws' := mw E r (mst S (nI h) 1 f hg)) F iX8 tyX8 tyX8_ok nmX8 0 rfl rfl 21 (by decide) tw_879 rfl rfl rfl (Nat.le_of_ble_eq_true rfl) dX8_act_313 rfl ?_
    refine z_aload_n (pc := 316) F dX8_act_316 rfl 0 rfl ?_
    refine z_lconst (pc := 317) (v := 0) F dX8_act_317 (by decide) ?_
    refine z_callVW (pc := 318) (q0 := 0) (ci := 8) (rest := []) F (c_X8_push l E r S h 1 f hg 0 (by first | assumption | rfl | omega)) 1 ww_Model_112 (by decide +kernel) rfl ⟨Nat.le_of_ble_eq_true rfl, Nat.le_of_ble_eq_true rfl⟩ ⟨Nat.le_of_ble_eq_true rfl, Nat.le_of_ble_eq_true rfl⟩ rfl rfl rfl rfl (Nat.le_of_ble_eq_true rfl) dX8_act_318 (fun v_ w1_ hp => ?_)
    obtain ⟨rfl, rfl⟩ := hp
    show Z X (0) (0) (mw E r (mst S (nI (h + 1)) 1 (vp_updL f h 0) hg)) [(0, .ref (r 0)), (1, .int (nI ro)), (2, .int (nI k)), (3, .int (nI 8)), (4, .int (-1)), (5, .long (f (h + 1)))] 321 []
    refine z_goto (pc := 321) (tgt := 416) F dX8_act_321 (by decide) ?_
    exact z_vret (pc := 416) F hR dX8_act_416 (Nat.le_of_ble_eq_true rfl) (Nat.le_of_ble_eq_true rfl) ⟨rfl, rfl⟩
set_option maxHeartbeats 4000000 in
set_option maxRecDepth 100000 in
theorem c_X8_act_8x (l : Launch) (E : zE) (r : Nat → Nat) (S : zS) (h : Nat) (ab : Int32) (f : Nat → Int64) (hg : Nat → Int32) (ro : Nat) (k : Nat) (j : Nat) (hh : h < 238) (hk : k < 1440) (hro : ro < 60) (hc : za S 11 k = nI 8) (hv : f h = lN j) (hj : j < 60) (hx : f (h + 1) < 0) : Ct l yX8_act cX8_act 9 (none) ({ frames := 2, cells := 0, slots := 0, locals := 60 } : Room) E (mw E r (mst S (nI (h + 1 + 1)) ab f hg)) [.ref (r 0), .int (nI ro), .int (nI k)] (fun v_ w_ => v_ = none ∧ w_ = mw E r (mst S (nI (h + 1)) 1 (vp_updL f h 0) (upd hg j 1))) := by
  refine Ct.of (by decide) (Nat.le_of_ble_eq_true rfl) (lv := [(0, .ref (r 0)), (1, .int (nI ro)), (2, .int (nI k))]) rfl ?_
  intro X F hR
  have F : zF X l ({ frames := 2, cells := 0, slots := 0, locals := 60 } : Room) E cX8_act 9 "LiveQueriesModel" := F
  refine z_aload_n (pc := 0) F dX8_act_0 rfl 0 rfl ?_
  refine z_get (pc := 1) (v := .ref (r 11)) F iX8 0 rfl rfl 14 (by decide) tw_872 rfl dX8_act_1 ?_
  refine z_iload_n (pc := 4) F dX8_act_4 rfl 2 rfl ?_
  refine z_ialdN (pc := 5) (f := za S 11) F 11 0 rfl rfl k rfl (by omega) (by decide) dX8_act_5 ?_
  rw [show (za S 11 k) = nI 8 from hc]
  refine z_istore_n (pc := 6) (lv' := [(0, .ref (r 0)), (1, .int (nI ro)), (2, .int (nI k)), (3, .int (nI 8))]) F dX8_act_6 rfl (by decide) [1, 2, 3, 0] rfl ?_
  refine z_iload_n (pc := 7) F dX8_act_7 rfl 3 rfl ?_
  · refine z_tableIn (off := 243) (tgt := 251) (pc := 8) F dX8_act_8 (by decide) (by decide) (by decide) (by decide) ?_
    refine z_aload_n (pc := 251) F dX8_act_251 rfl 0 rfl ?_
    refine z_callVW (pc := 252) (q0 := 0) (ci := 8) (rest := []) F (c_X8_pop l E r S (h + 1) ab f hg (by first | assumption | rfl | omega)) 0 ww_Model_104 (by decide +kernel) rfl ⟨Nat.le_of_ble_eq_true rfl, Nat.le_of_ble_eq_true rfl⟩ ⟨Nat.le_of_ble_eq_true rfl, Nat.le_of_ble_eq_true rfl⟩ rfl rfl rfl rfl (Nat.le_of_ble_eq_true rfl) dX8_act_252 (fun v_ w1_ hp => ?_)
    obtain ⟨rfl, rfl⟩ := hp
    show Z X (0) (0) (mw E r (mst S (nI (h + 1)) ab f hg)) [(0, .ref (r 0)), (1, .int (nI ro)), (2, .int (nI k)), (3, .int (nI 8))] 255 [.long (f (h + 1))]
    refine z_lstore (pc := 255) (lv' := [(0, .ref (r 0)), (1, .int (nI ro)), (2, .int (nI k)), (3, .int (nI 8)), (5, .long (f (h + 1)))]) F dX8_act_255 (by decide) [1, 2, 3, 4, 0] rfl ?_
    refine z_aload_n (pc := 257) F dX8_act_257 rfl 0 rfl ?_
    refine z_callVW (pc := 258) (q0 := 0) (ci := 8) (rest := []) F (c_X8_looked_s l E r S h ab f hg j (by first | assumption | rfl | omega) (by first | assumption | rfl | omega) (by first | assumption | rfl | omega)) 0 ww_Model_116 (by decide +kernel) rfl ⟨Nat.le_of_ble_eq_true rfl, Nat.le_of_ble_eq_true rfl⟩ ⟨Nat.le_of_ble_eq_true rfl, Nat.le_of_ble_eq_true rfl⟩ rfl rfl rfl rfl (Nat.le_of_ble_eq_true rfl) dX8_act_258 (fun v_ w1_ hp => ?_)
    obtain ⟨rfl, rfl⟩ := hp
    show Z X (0) (0) (mw E r (mst S (nI h) ab f (upd hg j 1))) [(0, .ref (r 0)), (1, .int (nI ro)), (2, .int (nI k)), (3, .int (nI 8)), (5, .long (f (h + 1)))] 261 [.int (nI j)]
    refine z_istore (pc := 261) (lv' := [(0, .ref (r 0)), (1, .int (nI ro)), (2, .int (nI k)), (3, .int (nI 8)), (4, .int (nI j)), (5, .long (f (h + 1)))]) F dX8_act_261 (by decide) [1, 2, 3, 4, 0, 5] rfl ?_
    refine z_iload (pc := 263) F dX8_act_263 4 rfl ?_
    refine z_iconst (pc := 265) (v := (-1)) F dX8_act_265 (by decide) ?_
    refine z_icmp_eq (pc := 266) (tgt := 311) F dX8_act_266 (by decide) (fun c266 => absurd c266 (nI_nm (by omega))) (fun c266 => ?_)
    refine z_lload (pc := 269) F dX8_act_269 5 rfl ?_
    refine z_lconst (pc := 271) (v := 0) F dX8_act_271 (by decide) ?_
    refine z_l_lt (pc := 272) (tgt := 311) F dX8_act_272 dX8_act_273 (by decide) (fun c272 => ?_) (fun c272 => absurd hx c272)
    refine z_aload_n (pc := 311) F dX8_act_311 rfl 0 rfl ?_
    refine z_iconst (pc := 312) (v := 1) F dX8_act_312 (by decide) ?_
    refine z_put (pc := 313) (ws' := mw E r (mst S (nI h) 1 f (upd hg j 1))) F iX8 tyX8 tyX8_ok nmX8 0 rfl rfl 21 (by decide) tw_879 rfl rfl rfl (Nat.le_of_ble_eq_true rfl) dX8_act_313 rfl ?_
    refine z_aload_n (pc := 316) F dX8_act_316 rfl 0 rfl ?_
    refine z_lconst (pc := 317) (v := 0) F dX8_act_317 (by decide) ?_
    refine z_callVW (pc := 318) (q0 := 0) (ci := 8) (rest := []) F (c_X8_push l E r S h 1 f (upd hg j 1) 0 (by first | assumption | rfl | omega)) 1 ww_Model_112 (by decide +kernel) rfl ⟨Nat.le_of_ble_eq_true rfl, Nat.le_of_ble_eq_true rfl⟩ ⟨Nat.le_of_ble_eq_true rfl, Nat.le_of_ble_eq_true rfl⟩ rfl rfl rfl rfl (Nat.le_of_ble_eq_true rfl) dX8_act_318 (fun v_ w1_ hp => ?_)
    obtain ⟨rfl, rfl⟩ := hp
    show Z X (0) (0) (mw E r (mst S (nI (h + 1)) 1 (vp_updL f h 0) (upd hg j 1))) [(0, .ref (r 0)), (1, .int (nI ro)), (2, .int (nI k)), (3, .int (nI 8)), (4, .int (nI j)), (5, .long (f (h + 1)))] 321 []
    refine z_goto (pc := 321) (tgt := 416) F dX8_act_321 (by decide) ?_
    exact z_vret (pc := 416) F hR dX8_act_416 (Nat.le_of_ble_eq_true rfl) (Nat.le_of_ble_eq_true rfl) ⟨rfl, rfl⟩
set_option maxHeartbeats 4000000 in
set_option maxRecDepth 100000 in
theorem c_X8_act_8y (l : Launch) (E : zE) (r : Nat → Nat) (S : zS) (h : Nat) (ab : Int32) (f : Nat → Int64) (hg : Nat → Int32) (ro : Nat) (k : Nat) (j : Nat) (hh : h < 238) (hk : k < 1440) (hro : ro < 60) (hc : za S 11 k = nI 8) (hv : f h = lN j) (hj : j < 60) (hx : ¬ f (h + 1) < 0) (hy : (za S 6 j).toInt64 ≤ f (h + 1)) : Ct l yX8_act cX8_act 9 (none) ({ frames := 2, cells := 0, slots := 0, locals := 60 } : Room) E (mw E r (mst S (nI (h + 1 + 1)) ab f hg)) [.ref (r 0), .int (nI ro), .int (nI k)] (fun v_ w_ => v_ = none ∧ w_ = mw E r (mst S (nI (h + 1)) 1 (vp_updL f h 0) (upd hg j 1))) := by
  refine Ct.of (by decide) (Nat.le_of_ble_eq_true rfl) (lv := [(0, .ref (r 0)), (1, .int (nI ro)), (2, .int (nI k))]) rfl ?_
  intro X F hR
  have F : zF X l ({ frames := 2, cells := 0, slots := 0, locals := 60 } : Room) E cX8_act 9 "LiveQueriesModel" := F
  refine z_aload_n (pc := 0) F dX8_act_0 rfl 0 rfl ?_
  refine z_get (pc := 1) (v := .ref (r 11)) F iX8 0 rfl rfl 14 (by decide) tw_872 rfl dX8_act_1 ?_
  refine z_iload_n (pc := 4) F dX8_act_4 rfl 2 rfl ?_
  refine z_ialdN (pc := 5) (f := za S 11) F 11 0 rfl rfl k rfl (by omega) (by decide) dX8_act_5 ?_
  rw [show (za S 11 k) = nI 8 from hc]
  refine z_istore_n (pc := 6) (lv' := [(0, .ref (r 0)), (1, .int (nI ro)), (2, .int (nI k)), (3, .int (nI 8))]) F dX8_act_6 rfl (by decide) [1, 2, 3, 0] rfl ?_
  refine z_iload_n (pc := 7) F dX8_act_7 rfl 3 rfl ?_
  · refine z_tableIn (off := 243) (tgt := 251) (pc := 8) F dX8_act_8 (by decide) (by decide) (by decide) (by decide) ?_
    refine z_aload_n (pc := 251) F dX8_act_251 rfl 0 rfl ?_
    refine z_callVW (pc := 252) (q0 := 0) (ci := 8) (rest := []) F (c_X8_pop l E r S (h + 1) ab f hg (by first | assumption | rfl | omega)) 0 ww_Model_104 (by decide +kernel) rfl ⟨Nat.le_of_ble_eq_true rfl, Nat.le_of_ble_eq_true rfl⟩ ⟨Nat.le_of_ble_eq_true rfl, Nat.le_of_ble_eq_true rfl⟩ rfl rfl rfl rfl (Nat.le_of_ble_eq_true rfl) dX8_act_252 (fun v_ w1_ hp => ?_)
    obtain ⟨rfl, rfl⟩ := hp
    show Z X (0) (0) (mw E r (mst S (nI (h + 1)) ab f hg)) [(0, .ref (r 0)), (1, .int (nI ro)), (2, .int (nI k)), (3, .int (nI 8))] 255 [.long (f (h + 1))]
    refine z_lstore (pc := 255) (lv' := [(0, .ref (r 0)), (1, .int (nI ro)), (2, .int (nI k)), (3, .int (nI 8)), (5, .long (f (h + 1)))]) F dX8_act_255 (by decide) [1, 2, 3, 4, 0] rfl ?_
    refine z_aload_n (pc := 257) F dX8_act_257 rfl 0 rfl ?_
    refine z_callVW (pc := 258) (q0 := 0) (ci := 8) (rest := []) F (c_X8_looked_s l E r S h ab f hg j (by first | assumption | rfl | omega) (by first | assumption | rfl | omega) (by first | assumption | rfl | omega)) 0 ww_Model_116 (by decide +kernel) rfl ⟨Nat.le_of_ble_eq_true rfl, Nat.le_of_ble_eq_true rfl⟩ ⟨Nat.le_of_ble_eq_true rfl, Nat.le_of_ble_eq_true rfl⟩ rfl rfl rfl rfl (Nat.le_of_ble_eq_true rfl) dX8_act_258 (fun v_ w1_ hp => ?_)
    obtain ⟨rfl, rfl⟩ := hp
    show Z X (0) (0) (mw E r (mst S (nI h) ab f (upd hg j 1))) [(0, .ref (r 0)), (1, .int (nI ro)), (2, .int (nI k)), (3, .int (nI 8)), (5, .long (f (h + 1)))] 261 [.int (nI j)]
    refine z_istore (pc := 261) (lv' := [(0, .ref (r 0)), (1, .int (nI ro)), (2, .int (nI k)), (3, .int (nI 8)), (4, .int (nI j)), (5, .long (f (h + 1)))]) F dX8_act_261 (by decide) [1, 2, 3, 4, 0, 5] rfl ?_
    refine z_iload (pc := 263) F dX8_act_263 4 rfl ?_
    refine z_iconst (pc := 265) (v := (-1)) F dX8_act_265 (by decide) ?_
    refine z_icmp_eq (pc := 266) (tgt := 311) F dX8_act_266 (by decide) (fun c266 => absurd c266 (nI_nm (by omega))) (fun c266 => ?_)
    refine z_lload (pc := 269) F dX8_act_269 5 rfl ?_
    refine z_lconst (pc := 271) (v := 0) F dX8_act_271 (by decide) ?_
    refine z_l_lt (pc := 272) (tgt := 311) F dX8_act_272 dX8_act_273 (by decide) (fun c272 => absurd c272 hx) (fun c272 => ?_)
    refine z_lload (pc := 276) F dX8_act_276 5 rfl ?_
    refine z_aload_n (pc := 278) F dX8_act_278 rfl 0 rfl ?_
    refine z_get (pc := 279) (v := .ref (r 6)) F iX8 0 rfl rfl 8 (by decide) tw_866 rfl dX8_act_279 ?_
    refine z_iload (pc := 282) F dX8_act_282 4 rfl ?_
    refine z_ialdN (pc := 284) (f := za S 6) F 6 0 rfl rfl j rfl (by omega) (by decide) dX8_act_284 ?_
    refine z_i2l (pc := 285) F dX8_act_285 ?_
    refine z_l_ge (pc := 286) (tgt := 311) F dX8_act_286 dX8_act_287 (by decide) (fun c286 => ?_) (fun c286 => absurd hy c286)
    refine z_aload_n (pc := 311) F dX8_act_311 rfl 0 rfl ?_
    refine z_iconst (pc := 312) (v := 1) F dX8_act_312 (by decide) ?_
    refine z_put (pc := 313) (ws' := mw E r (mst S (nI h) 1 f (upd hg j 1))) F iX8 tyX8 tyX8_ok nmX8 0 rfl rfl 21 (by decide) tw_879 rfl rfl rfl (Nat.le_of_ble_eq_true rfl) dX8_act_313 rfl ?_
    refine z_aload_n (pc := 316) F dX8_act_316 rfl 0 rfl ?_
    refine z_lconst (pc := 317) (v := 0) F dX8_act_317 (by decide) ?_
    refine z_callVW (pc := 318) (q0 := 0) (ci := 8) (rest := []) F (c_X8_push l E r S h 1 f (upd hg j 1) 0 (by first | assumption | rfl | omega)) 1 ww_Model_112 (by decide +kernel) rfl ⟨Nat.le_of_ble_eq_true rfl, Nat.le_of_ble_eq_true rfl⟩ ⟨Nat.le_of_ble_eq_true rfl, Nat.le_of_ble_eq_true rfl⟩ rfl rfl rfl rfl (Nat.le_of_ble_eq_true rfl) dX8_act_318 (fun v_ w1_ hp => ?_)
    obtain ⟨rfl, rfl⟩ := hp
    show Z X (0) (0) (mw E r (mst S (nI (h + 1)) 1 (vp_updL f h 0) (upd hg j 1))) [(0, .ref (r 0)), (1, .int (nI ro)), (2, .int (nI k)), (3, .int (nI 8)), (4, .int (nI j)), (5, .long (f (h + 1)))] 321 []
    refine z_goto (pc := 321) (tgt := 416) F dX8_act_321 (by decide) ?_
    exact z_vret (pc := 416) F hR dX8_act_416 (Nat.le_of_ble_eq_true rfl) (Nat.le_of_ble_eq_true rfl) ⟨rfl, rfl⟩
set_option maxHeartbeats 4000000 in
set_option maxRecDepth 100000 in
theorem c_X8_act_8s (l : Launch) (E : zE) (r : Nat → Nat) (S : zS) (h : Nat) (ab : Int32) (f : Nat → Int64) (hg : Nat → Int32) (ro : Nat) (k : Nat) (j : Nat) (p : Nat) (hh : h < 238) (hk : k < 1440) (hro : ro < 60) (hc : za S 11 k = nI 8) (hv : f h = lN j) (hj : j < 60) (hx : f (h + 1) = lN p) (hp : p < 8) (hy : ¬ (za S 6 j).toInt64 ≤ lN p) : Ct l yX8_act cX8_act 9 (none) ({ frames := 2, cells := 0, slots := 0, locals := 60 } : Room) E (mw E r (mst S (nI (h + 1 + 1)) ab f hg)) [.ref (r 0), .int (nI ro), .int (nI k)] (fun v_ w_ => v_ = none ∧ w_ = mw E r (mst S (nI (h + 1)) ab (vp_updL f h (zb S 7 (8 * j + p))) (upd hg j 1))) := by
  refine Ct.of (by decide) (Nat.le_of_ble_eq_true rfl) (lv := [(0, .ref (r 0)), (1, .int (nI ro)), (2, .int (nI k))]) rfl ?_
  intro X F hR
  have F : zF X l ({ frames := 2, cells := 0, slots := 0, locals := 60 } : Room) E cX8_act 9 "LiveQueriesModel" := F
  refine z_aload_n (pc := 0) F dX8_act_0 rfl 0 rfl ?_
  refine z_get (pc := 1) (v := .ref (r 11)) F iX8 0 rfl rfl 14 (by decide) tw_872 rfl dX8_act_1 ?_
  refine z_iload_n (pc := 4) F dX8_act_4 rfl 2 rfl ?_
  refine z_ialdN (pc := 5) (f := za S 11) F 11 0 rfl rfl k rfl (by omega) (by decide) dX8_act_5 ?_
  rw [show (za S 11 k) = nI 8 from hc]
  refine z_istore_n (pc := 6) (lv' := [(0, .ref (r 0)), (1, .int (nI ro)), (2, .int (nI k)), (3, .int (nI 8))]) F dX8_act_6 rfl (by decide) [1, 2, 3, 0] rfl ?_
  refine z_iload_n (pc := 7) F dX8_act_7 rfl 3 rfl ?_
  · refine z_tableIn (off := 243) (tgt := 251) (pc := 8) F dX8_act_8 (by decide) (by decide) (by decide) (by decide) ?_
    refine z_aload_n (pc := 251) F dX8_act_251 rfl 0 rfl ?_
    refine z_callVW (pc := 252) (q0 := 0) (ci := 8) (rest := []) F (c_X8_pop l E r S (h + 1) ab f hg (by first | assumption | rfl | omega)) 0 ww_Model_104 (by decide +kernel) rfl ⟨Nat.le_of_ble_eq_true rfl, Nat.le_of_ble_eq_true rfl⟩ ⟨Nat.le_of_ble_eq_true rfl, Nat.le_of_ble_eq_true rfl⟩ rfl rfl rfl rfl (Nat.le_of_ble_eq_true rfl) dX8_act_252 (fun v_ w1_ hp => ?_)
    obtain ⟨rfl, rfl⟩ := hp
    show Z X (0) (0) (mw E r (mst S (nI (h + 1)) ab f hg)) [(0, .ref (r 0)), (1, .int (nI ro)), (2, .int (nI k)), (3, .int (nI 8))] 255 [.long (f (h + 1))]
    rw [show (f (h + 1)) = lN p from hx]
    refine z_lstore (pc := 255) (lv' := [(0, .ref (r 0)), (1, .int (nI ro)), (2, .int (nI k)), (3, .int (nI 8)), (5, .long (lN p))]) F dX8_act_255 (by decide) [1, 2, 3, 4, 0] rfl ?_
    refine z_aload_n (pc := 257) F dX8_act_257 rfl 0 rfl ?_
    refine z_callVW (pc := 258) (q0 := 0) (ci := 8) (rest := []) F (c_X8_looked_s l E r S h ab f hg j (by first | assumption | rfl | omega) (by first | assumption | rfl | omega) (by first | assumption | rfl | omega)) 0 ww_Model_116 (by decide +kernel) rfl ⟨Nat.le_of_ble_eq_true rfl, Nat.le_of_ble_eq_true rfl⟩ ⟨Nat.le_of_ble_eq_true rfl, Nat.le_of_ble_eq_true rfl⟩ rfl rfl rfl rfl (Nat.le_of_ble_eq_true rfl) dX8_act_258 (fun v_ w1_ hp => ?_)
    obtain ⟨rfl, rfl⟩ := hp
    show Z X (0) (0) (mw E r (mst S (nI h) ab f (upd hg j 1))) [(0, .ref (r 0)), (1, .int (nI ro)), (2, .int (nI k)), (3, .int (nI 8)), (5, .long (lN p))] 261 [.int (nI j)]
    refine z_istore (pc := 261) (lv' := [(0, .ref (r 0)), (1, .int (nI ro)), (2, .int (nI k)), (3, .int (nI 8)), (4, .int (nI j)), (5, .long (lN p))]) F dX8_act_261 (by decide) [1, 2, 3, 4, 0, 5] rfl ?_
    refine z_iload (pc := 263) F dX8_act_263 4 rfl ?_
    refine z_iconst (pc := 265) (v := (-1)) F dX8_act_265 (by decide) ?_
    refine z_icmp_eq (pc := 266) (tgt := 311) F dX8_act_266 (by decide) (fun c266 => absurd c266 (nI_nm (by omega))) (fun c266 => ?_)
    refine z_lload (pc := 269) F dX8_act_269 5 rfl ?_
    refine z_lconst (pc := 271) (v := 0) F dX8_act_271 (by decide) ?_
    refine z_l_lt (pc := 272) (tgt := 311) F dX8_act_272 dX8_act_273 (by decide) (fun c272 => absurd c272 (lN_pos (by omega))) (fun c272 => ?_)
    refine z_lload (pc := 276) F dX8_act_276 5 rfl ?_
    refine z_aload_n (pc := 278) F dX8_act_278 rfl 0 rfl ?_
    refine z_get (pc := 279) (v := .ref (r 6)) F iX8 0 rfl rfl 8 (by decide) tw_866 rfl dX8_act_279 ?_
    refine z_iload (pc := 282) F dX8_act_282 4 rfl ?_
    refine z_ialdN (pc := 284) (f := za S 6) F 6 0 rfl rfl j rfl (by omega) (by decide) dX8_act_284 ?_
    refine z_i2l (pc := 285) F dX8_act_285 ?_
    refine z_l_ge (pc := 286) (tgt := 311) F dX8_act_286 dX8_act_287 (by decide) (fun c286 => absurd c286 hy) (fun c286 => ?_)
    refine z_aload_n (pc := 290) F dX8_act_290 rfl 0 rfl ?_
    refine z_aload_n (pc := 291) F dX8_act_291 rfl 0 rfl ?_
    refine z_get (pc := 292) (v := .ref (r 7)) F iX8 0 rfl rfl 9 (by decide) tw_867 rfl dX8_act_292 ?_
    refine z_bipush (pc := 295) (v := 8) F dX8_act_295 (by decide) ?_
    refine z_iload (pc := 297) F dX8_act_297 4 rfl ?_
    refine z_imul (pc := 299) F dX8_act_299 ?_
    refine z_lload (pc := 300) F dX8_act_300 5 rfl ?_
    refine z_l2i (pc := 302) F dX8_act_302 ?_
    rw [show ((lN p).toInt32) = nI p from lN_i32]
    refine z_iadd (pc := 303) F dX8_act_303 ?_
    refine z_laldN (pc := 304) (f := zb S 7) F 7 1 rfl rfl (8 * j + p) ix8 (by omega) (by decide) dX8_act_304 ?_
    refine z_callVW (pc := 305) (q0 := 0) (ci := 8) (rest := []) F (c_X8_push l E r S h ab f (upd hg j 1) (zb S 7 (8 * j + p)) (by first | assumption | rfl | omega)) 1 ww_Model_112 (by decide +kernel) rfl ⟨Nat.le_of_ble_eq_true rfl, Nat.le_of_ble_eq_true rfl⟩ ⟨Nat.le_of_ble_eq_true rfl, Nat.le_of_ble_eq_true rfl⟩ rfl rfl rfl rfl (Nat.le_of_ble_eq_true rfl) dX8_act_305 (fun v_ w1_ hp => ?_)
    obtain ⟨rfl, rfl⟩ := hp
    show Z X (0) (0) (mw E r (mst S (nI (h + 1)) ab (vp_updL f h (zb S 7 (8 * j + p))) (upd hg j 1))) [(0, .ref (r 0)), (1, .int (nI ro)), (2, .int (nI k)), (3, .int (nI 8)), (4, .int (nI j)), (5, .long (lN p))] 308 []
    refine z_goto (pc := 308) (tgt := 416) F dX8_act_308 (by decide) ?_
    exact z_vret (pc := 416) F hR dX8_act_416 (Nat.le_of_ble_eq_true rfl) (Nat.le_of_ble_eq_true rfl) ⟨rfl, rfl⟩
set_option maxHeartbeats 4000000 in
set_option maxRecDepth 100000 in
theorem c_X8_act_9 (l : Launch) (E : zE) (r : Nat → Nat) (S : zS) (h : Nat) (ab : Int32) (f : Nat → Int64) (hg : Nat → Int32) (ro : Nat) (k : Nat) (hh : h < 238) (hk : k < 1440) (hro : ro < 60) (hc : za S 11 k = nI 9) : Ct l yX8_act cX8_act 9 (none) ({ frames := 2, cells := 0, slots := 0, locals := 60 } : Room) E (mw E r (mst S (nI (h + 1)) ab f hg)) [.ref (r 0), .int (nI ro), .int (nI k)] (fun v_ w_ => v_ = none ∧ w_ = mw E r (mst S (nI (h + 1)) ab (vp_updL f h (-(f h))) hg)) := by
  refine Ct.of (by decide) (Nat.le_of_ble_eq_true rfl) (lv := [(0, .ref (r 0)), (1, .int (nI ro)), (2, .int (nI k))]) rfl ?_
  intro X F hR
  have F : zF X l ({ frames := 2, cells := 0, slots := 0, locals := 60 } : Room) E cX8_act 9 "LiveQueriesModel" := F
  refine z_aload_n (pc := 0) F dX8_act_0 rfl 0 rfl ?_
  refine z_get (pc := 1) (v := .ref (r 11)) F iX8 0 rfl rfl 14 (by decide) tw_872 rfl dX8_act_1 ?_
  refine z_iload_n (pc := 4) F dX8_act_4 rfl 2 rfl ?_
  refine z_ialdN (pc := 5) (f := za S 11) F 11 0 rfl rfl k rfl (by omega) (by decide) dX8_act_5 ?_
  rw [show (za S 11 k) = nI 9 from hc]
  refine z_istore_n (pc := 6) (lv' := [(0, .ref (r 0)), (1, .int (nI ro)), (2, .int (nI k)), (3, .int (nI 9))]) F dX8_act_6 rfl (by decide) [1, 2, 3, 0] rfl ?_
  refine z_iload_n (pc := 7) F dX8_act_7 rfl 3 rfl ?_
  · refine z_tableIn (off := 316) (tgt := 324) (pc := 8) F dX8_act_8 (by decide) (by decide) (by decide) (by decide) ?_
    refine z_aload_n (pc := 324) F dX8_act_324 rfl 0 rfl ?_
    refine z_aload_n (pc := 325) F dX8_act_325 rfl 0 rfl ?_
    refine z_callVW (pc := 326) (q0 := 0) (ci := 8) (rest := [.ref (r 0)]) F (c_X8_pop l E r S h ab f hg (by first | assumption | rfl | omega)) 0 ww_Model_104 (by decide +kernel) rfl ⟨Nat.le_of_ble_eq_true rfl, Nat.le_of_ble_eq_true rfl⟩ ⟨Nat.le_of_ble_eq_true rfl, Nat.le_of_ble_eq_true rfl⟩ rfl rfl rfl rfl (Nat.le_of_ble_eq_true rfl) dX8_act_326 (fun v_ w1_ hp => ?_)
    obtain ⟨rfl, rfl⟩ := hp
    show Z X (0) (0) (mw E r (mst S (nI h) ab f hg)) [(0, .ref (r 0)), (1, .int (nI ro)), (2, .int (nI k)), (3, .int (nI 9))] 329 [.long (f h), .ref (r 0)]
    refine z_lneg (pc := 329) F dX8_act_329 ?_
    refine z_callVW (pc := 330) (q0 := 0) (ci := 8) (rest := []) F (c_X8_push l E r S h ab f hg (-(f h)) (by first | assumption | rfl | omega)) 1 ww_Model_112 (by decide +kernel) rfl ⟨Nat.le_of_ble_eq_true rfl, Nat.le_of_ble_eq_true rfl⟩ ⟨Nat.le_of_ble_eq_true rfl, Nat.le_of_ble_eq_true rfl⟩ rfl rfl rfl rfl (Nat.le_of_ble_eq_true rfl) dX8_act_330 (fun v_ w1_ hp => ?_)
    obtain ⟨rfl, rfl⟩ := hp
    show Z X (0) (0) (mw E r (mst S (nI (h + 1)) ab (vp_updL f h (-(f h))) hg)) [(0, .ref (r 0)), (1, .int (nI ro)), (2, .int (nI k)), (3, .int (nI 9))] 333 []
    refine z_goto (pc := 333) (tgt := 416) F dX8_act_333 (by decide) ?_
    exact z_vret (pc := 416) F hR dX8_act_416 (Nat.le_of_ble_eq_true rfl) (Nat.le_of_ble_eq_true rfl) ⟨rfl, rfl⟩
set_option maxHeartbeats 4000000 in
set_option maxRecDepth 100000 in
theorem c_X8_act_21 (l : Launch) (E : zE) (r : Nat → Nat) (S : zS) (h : Nat) (ab : Int32) (f : Nat → Int64) (hg : Nat → Int32) (ro : Nat) (k : Nat) (hh : h < 238) (hk : k < 1440) (hro : ro < 60) (hc : za S 11 k = nI 21) : Ct l yX8_act cX8_act 9 (none) ({ frames := 2, cells := 0, slots := 0, locals := 60 } : Room) E (mw E r (mst S (nI (h + 1)) ab f hg)) [.ref (r 0), .int (nI ro), .int (nI k)] (fun v_ w_ => v_ = none ∧ w_ = mw E r (mst S (nI (h + 1)) ab (vp_updL f h (1 - f h)) hg)) := by
  refine Ct.of (by decide) (Nat.le_of_ble_eq_true rfl) (lv := [(0, .ref (r 0)), (1, .int (nI ro)), (2, .int (nI k))]) rfl ?_
  intro X F hR
  have F : zF X l ({ frames := 2, cells := 0, slots := 0, locals := 60 } : Room) E cX8_act 9 "LiveQueriesModel" := F
  refine z_aload_n (pc := 0) F dX8_act_0 rfl 0 rfl ?_
  refine z_get (pc := 1) (v := .ref (r 11)) F iX8 0 rfl rfl 14 (by decide) tw_872 rfl dX8_act_1 ?_
  refine z_iload_n (pc := 4) F dX8_act_4 rfl 2 rfl ?_
  refine z_ialdN (pc := 5) (f := za S 11) F 11 0 rfl rfl k rfl (by omega) (by decide) dX8_act_5 ?_
  rw [show (za S 11 k) = nI 21 from hc]
  refine z_istore_n (pc := 6) (lv' := [(0, .ref (r 0)), (1, .int (nI ro)), (2, .int (nI k)), (3, .int (nI 21))]) F dX8_act_6 rfl (by decide) [1, 2, 3, 0] rfl ?_
  refine z_iload_n (pc := 7) F dX8_act_7 rfl 3 rfl ?_
  · refine z_tableIn (off := 328) (tgt := 336) (pc := 8) F dX8_act_8 (by decide) (by decide) (by decide) (by decide) ?_
    refine z_aload_n (pc := 336) F dX8_act_336 rfl 0 rfl ?_
    refine z_lconst (pc := 337) (v := 1) F dX8_act_337 (by decide) ?_
    refine z_aload_n (pc := 338) F dX8_act_338 rfl 0 rfl ?_
    refine z_callVW (pc := 339) (q0 := 0) (ci := 8) (rest := [.long 1, .ref (r 0)]) F (c_X8_pop l E r S h ab f hg (by first | assumption | rfl | omega)) 0 ww_Model_104 (by decide +kernel) rfl ⟨Nat.le_of_ble_eq_true rfl, Nat.le_of_ble_eq_true rfl⟩ ⟨Nat.le_of_ble_eq_true rfl, Nat.le_of_ble_eq_true rfl⟩ rfl rfl rfl rfl (Nat.le_of_ble_eq_true rfl) dX8_act_339 (fun v_ w1_ hp => ?_)
    obtain ⟨rfl, rfl⟩ := hp
    show Z X (0) (0) (mw E r (mst S (nI h) ab f hg)) [(0, .ref (r 0)), (1, .int (nI ro)), (2, .int (nI k)), (3, .int (nI 21))] 342 [.long (f h), .long 1, .ref (r 0)]
    refine z_lsub (pc := 342) F dX8_act_342 ?_
    refine z_callVW (pc := 343) (q0 := 0) (ci := 8) (rest := []) F (c_X8_push l E r S h ab f hg (1 - (f h)) (by first | assumption | rfl | omega)) 1 ww_Model_112 (by decide +kernel) rfl ⟨Nat.le_of_ble_eq_true rfl, Nat.le_of_ble_eq_true rfl⟩ ⟨Nat.le_of_ble_eq_true rfl, Nat.le_of_ble_eq_true rfl⟩ rfl rfl rfl rfl (Nat.le_of_ble_eq_true rfl) dX8_act_343 (fun v_ w1_ hp => ?_)
    obtain ⟨rfl, rfl⟩ := hp
    show Z X (0) (0) (mw E r (mst S (nI (h + 1)) ab (vp_updL f h (1 - (f h))) hg)) [(0, .ref (r 0)), (1, .int (nI ro)), (2, .int (nI k)), (3, .int (nI 21))] 346 []
    refine z_goto (pc := 346) (tgt := 416) F dX8_act_346 (by decide) ?_
    exact z_vret (pc := 416) F hR dX8_act_416 (Nat.le_of_ble_eq_true rfl) (Nat.le_of_ble_eq_true rfl) ⟨rfl, rfl⟩
set_option maxHeartbeats 4000000 in
set_option maxRecDepth 100000 in
theorem c_X8_act_b (l : Launch) (E : zE) (r : Nat → Nat) (S : zS) (h : Nat) (ab : Int32) (f : Nat → Int64) (hg : Nat → Int32) (ro : Nat) (k : Nat) (op : Nat) (hh : h < 238) (hk : k < 1440) (hro : ro < 60) (hc : za S 11 k = nI op) (ho : 10 ≤ op) (hp : op ≤ 20) : Ct l yX8_act cX8_act 9 (none) ({ frames := 2, cells := 0, slots := 0, locals := 60 } : Room) E (mw E r (mst S (nI (h + 1 + 1)) ab f hg)) [.ref (r 0), .int (nI ro), .int (nI k)] (fun v_ w_ => v_ = none ∧ w_ = mw E r (mst S (nI (h + 1)) (rkA op (f (h + 1)) ab) (vp_updL f h (rk op (f h) (f (h + 1)))) hg)) := by
  refine Ct.of (by decide) (Nat.le_of_ble_eq_true rfl) (lv := [(0, .ref (r 0)), (1, .int (nI ro)), (2, .int (nI k))]) rfl ?_
  intro X F hR
  have F : zF X l ({ frames := 2, cells := 0, slots := 0, locals := 60 } : Room) E cX8_act 9 "LiveQueriesModel" := F
  refine z_aload_n (pc := 0) F dX8_act_0 rfl 0 rfl ?_
  refine z_get (pc := 1) (v := .ref (r 11)) F iX8 0 rfl rfl 14 (by decide) tw_872 rfl dX8_act_1 ?_
  refine z_iload_n (pc := 4) F dX8_act_4 rfl 2 rfl ?_
  refine z_ialdN (pc := 5) (f := za S 11) F 11 0 rfl rfl k rfl (by omega) (by decide) dX8_act_5 ?_
  rw [show (za S 11 k) = nI op from hc]
  refine z_istore_n (pc := 6) (lv' := [(0, .ref (r 0)), (1, .int (nI ro)), (2, .int (nI k)), (3, .int (nI op))]) F dX8_act_6 rfl (by decide) [1, 2, 3, 0] rfl ?_
  refine z_iload_n (pc := 7) F dX8_act_7 rfl 3 rfl ?_
  rcases (show op = 10 ∨ op = 11 ∨ op = 12 ∨ op = 13 ∨ op = 14 ∨ op = 15 ∨ op = 16 ∨ op = 17 ∨ op = 18 ∨ op = 19 ∨ op = 20 by omega) with rfl | rfl | rfl | rfl | rfl | rfl | rfl | rfl | rfl | rfl | rfl
  · refine z_tableIn (off := 341) (tgt := 349) (pc := 8) F dX8_act_8 (by decide) (by decide) (by decide) (by decide) ?_
    refine z_iload_n (pc := 349) F dX8_act_349 rfl 3 rfl ?_
    refine z_bipush (pc := 350) (v := 6) F dX8_act_350 (by decide) ?_
    refine z_icmp_ge (pc := 352) (tgt := 391) F dX8_act_352 (by decide) (fun _ => ?_) (fun h => absurd h (by decide))
    refine z_aload_n (pc := 391) F dX8_act_391 rfl 0 rfl ?_
    refine z_callVW (pc := 392) (q0 := 0) (ci := 8) (rest := []) F (c_X8_pop l E r S (h + 1) ab f hg (by first | assumption | rfl | omega)) 0 ww_Model_104 (by decide +kernel) rfl ⟨Nat.le_of_ble_eq_true rfl, Nat.le_of_ble_eq_true rfl⟩ ⟨Nat.le_of_ble_eq_true rfl, Nat.le_of_ble_eq_true rfl⟩ rfl rfl rfl rfl (Nat.le_of_ble_eq_true rfl) dX8_act_392 (fun v_ w1_ hp => ?_)
    obtain ⟨rfl, rfl⟩ := hp
    show Z X (0) (0) (mw E r (mst S (nI (h + 1)) ab f hg)) [(0, .ref (r 0)), (1, .int (nI ro)), (2, .int (nI k)), (3, .int (nI 10))] 395 [.long (f (h + 1))]
    refine z_lstore (pc := 395) (lv' := [(0, .ref (r 0)), (1, .int (nI ro)), (2, .int (nI k)), (3, .int (nI 10)), (7, .long (f (h + 1)))]) F dX8_act_395 (by decide) [1, 2, 3, 4, 0] rfl ?_
    refine z_aload_n (pc := 397) F dX8_act_397 rfl 0 rfl ?_
    refine z_callVW (pc := 398) (q0 := 0) (ci := 8) (rest := []) F (c_X8_pop l E r S h ab f hg (by first | assumption | rfl | omega)) 0 ww_Model_104 (by decide +kernel) rfl ⟨Nat.le_of_ble_eq_true rfl, Nat.le_of_ble_eq_true rfl⟩ ⟨Nat.le_of_ble_eq_true rfl, Nat.le_of_ble_eq_true rfl⟩ rfl rfl rfl rfl (Nat.le_of_ble_eq_true rfl) dX8_act_398 (fun v_ w1_ hp => ?_)
    obtain ⟨rfl, rfl⟩ := hp
    show Z X (0) (0) (mw E r (mst S (nI h) ab f hg)) [(0, .ref (r 0)), (1, .int (nI ro)), (2, .int (nI k)), (3, .int (nI 10)), (7, .long (f (h + 1)))] 401 [.long (f h)]
    refine z_lstore (pc := 401) (lv' := [(0, .ref (r 0)), (1, .int (nI ro)), (2, .int (nI k)), (3, .int (nI 10)), (5, .long (f h)), (7, .long (f (h + 1)))]) F dX8_act_401 (by decide) [1, 2, 3, 4, 0, 5] rfl ?_
    refine z_aload_n (pc := 403) F dX8_act_403 rfl 0 rfl ?_
    refine z_aload_n (pc := 404) F dX8_act_404 rfl 0 rfl ?_
    refine z_iload_n (pc := 405) F dX8_act_405 rfl 3 rfl ?_
    refine z_lload (pc := 406) F dX8_act_406 4 rfl ?_
    refine z_lload (pc := 408) F dX8_act_408 5 rfl ?_
    refine z_callVW (pc := 410) (q0 := 0) (ci := 8) (rest := [.ref (r 0)]) F (c_X8_reckon l E r S (nI h) ab f hg 10 (f h) (f (h + 1)) (by first | assumption | rfl | omega) (by first | assumption | rfl | omega)) 3 ww_Model_122 (by decide +kernel) rfl ⟨Nat.le_of_ble_eq_true rfl, Nat.le_of_ble_eq_true rfl⟩ ⟨Nat.le_of_ble_eq_true rfl, Nat.le_of_ble_eq_true rfl⟩ rfl rfl rfl rfl (Nat.le_of_ble_eq_true rfl) dX8_act_410 (fun v_ w1_ hp => ?_)
    obtain ⟨rfl, rfl⟩ := hp
    show Z X (0) (0) (mw E r (mst S (nI h) (rkA 10 (f (h + 1)) ab) f hg)) [(0, .ref (r 0)), (1, .int (nI ro)), (2, .int (nI k)), (3, .int (nI 10)), (5, .long (f h)), (7, .long (f (h + 1)))] 413 [.long (rk 10 (f h) (f (h + 1))), .ref (r 0)]
    refine z_callVW (pc := 413) (q0 := 0) (ci := 8) (rest := []) F (c_X8_push l E r S h (rkA 10 (f (h + 1)) ab) f hg (rk 10 (f h) (f (h + 1))) (by first | assumption | rfl | omega)) 1 ww_Model_112 (by decide +kernel) rfl ⟨Nat.le_of_ble_eq_true rfl, Nat.le_of_ble_eq_true rfl⟩ ⟨Nat.le_of_ble_eq_true rfl, Nat.le_of_ble_eq_true rfl⟩ rfl rfl rfl rfl (Nat.le_of_ble_eq_true rfl) dX8_act_413 (fun v_ w1_ hp => ?_)
    obtain ⟨rfl, rfl⟩ := hp
    show Z X (0) (0) (mw E r (mst S (nI (h + 1)) (rkA 10 (f (h + 1)) ab) (vp_updL f h (rk 10 (f h) (f (h + 1)))) hg)) [(0, .ref (r 0)), (1, .int (nI ro)), (2, .int (nI k)), (3, .int (nI 10)), (5, .long (f h)), (7, .long (f (h + 1)))] 416 []
    exact z_vret (pc := 416) F hR dX8_act_416 (Nat.le_of_ble_eq_true rfl) (Nat.le_of_ble_eq_true rfl) ⟨rfl, rfl⟩
  · refine z_tableIn (off := 341) (tgt := 349) (pc := 8) F dX8_act_8 (by decide) (by decide) (by decide) (by decide) ?_
    refine z_iload_n (pc := 349) F dX8_act_349 rfl 3 rfl ?_
    refine z_bipush (pc := 350) (v := 6) F dX8_act_350 (by decide) ?_
    refine z_icmp_ge (pc := 352) (tgt := 391) F dX8_act_352 (by decide) (fun _ => ?_) (fun h => absurd h (by decide))
    refine z_aload_n (pc := 391) F dX8_act_391 rfl 0 rfl ?_
    refine z_callVW (pc := 392) (q0 := 0) (ci := 8) (rest := []) F (c_X8_pop l E r S (h + 1) ab f hg (by first | assumption | rfl | omega)) 0 ww_Model_104 (by decide +kernel) rfl ⟨Nat.le_of_ble_eq_true rfl, Nat.le_of_ble_eq_true rfl⟩ ⟨Nat.le_of_ble_eq_true rfl, Nat.le_of_ble_eq_true rfl⟩ rfl rfl rfl rfl (Nat.le_of_ble_eq_true rfl) dX8_act_392 (fun v_ w1_ hp => ?_)
    obtain ⟨rfl, rfl⟩ := hp
    show Z X (0) (0) (mw E r (mst S (nI (h + 1)) ab f hg)) [(0, .ref (r 0)), (1, .int (nI ro)), (2, .int (nI k)), (3, .int (nI 11))] 395 [.long (f (h + 1))]
    refine z_lstore (pc := 395) (lv' := [(0, .ref (r 0)), (1, .int (nI ro)), (2, .int (nI k)), (3, .int (nI 11)), (7, .long (f (h + 1)))]) F dX8_act_395 (by decide) [1, 2, 3, 4, 0] rfl ?_
    refine z_aload_n (pc := 397) F dX8_act_397 rfl 0 rfl ?_
    refine z_callVW (pc := 398) (q0 := 0) (ci := 8) (rest := []) F (c_X8_pop l E r S h ab f hg (by first | assumption | rfl | omega)) 0 ww_Model_104 (by decide +kernel) rfl ⟨Nat.le_of_ble_eq_true rfl, Nat.le_of_ble_eq_true rfl⟩ ⟨Nat.le_of_ble_eq_true rfl, Nat.le_of_ble_eq_true rfl⟩ rfl rfl rfl rfl (Nat.le_of_ble_eq_true rfl) dX8_act_398 (fun v_ w1_ hp => ?_)
    obtain ⟨rfl, rfl⟩ := hp
    show Z X (0) (0) (mw E r (mst S (nI h) ab f hg)) [(0, .ref (r 0)), (1, .int (nI ro)), (2, .int (nI k)), (3, .int (nI 11)), (7, .long (f (h + 1)))] 401 [.long (f h)]
    refine z_lstore (pc := 401) (lv' := [(0, .ref (r 0)), (1, .int (nI ro)), (2, .int (nI k)), (3, .int (nI 11)), (5, .long (f h)), (7, .long (f (h + 1)))]) F dX8_act_401 (by decide) [1, 2, 3, 4, 0, 5] rfl ?_
    refine z_aload_n (pc := 403) F dX8_act_403 rfl 0 rfl ?_
    refine z_aload_n (pc := 404) F dX8_act_404 rfl 0 rfl ?_
    refine z_iload_n (pc := 405) F dX8_act_405 rfl 3 rfl ?_
    refine z_lload (pc := 406) F dX8_act_406 4 rfl ?_
    refine z_lload (pc := 408) F dX8_act_408 5 rfl ?_
    refine z_callVW (pc := 410) (q0 := 0) (ci := 8) (rest := [.ref (r 0)]) F (c_X8_reckon l E r S (nI h) ab f hg 11 (f h) (f (h + 1)) (by first | assumption | rfl | omega) (by first | assumption | rfl | omega)) 3 ww_Model_122 (by decide +kernel) rfl ⟨Nat.le_of_ble_eq_true rfl, Nat.le_of_ble_eq_true rfl⟩ ⟨Nat.le_of_ble_eq_true rfl, Nat.le_of_ble_eq_true rfl⟩ rfl rfl rfl rfl (Nat.le_of_ble_eq_true rfl) dX8_act_410 (fun v_ w1_ hp => ?_)
    obtain ⟨rfl, rfl⟩ := hp
    show Z X (0) (0) (mw E r (mst S (nI h) (rkA 11 (f (h + 1)) ab) f hg)) [(0, .ref (r 0)), (1, .int (nI ro)), (2, .int (nI k)), (3, .int (nI 11)), (5, .long (f h)), (7, .long (f (h + 1)))] 413 [.long (rk 11 (f h) (f (h + 1))), .ref (r 0)]
    refine z_callVW (pc := 413) (q0 := 0) (ci := 8) (rest := []) F (c_X8_push l E r S h (rkA 11 (f (h + 1)) ab) f hg (rk 11 (f h) (f (h + 1))) (by first | assumption | rfl | omega)) 1 ww_Model_112 (by decide +kernel) rfl ⟨Nat.le_of_ble_eq_true rfl, Nat.le_of_ble_eq_true rfl⟩ ⟨Nat.le_of_ble_eq_true rfl, Nat.le_of_ble_eq_true rfl⟩ rfl rfl rfl rfl (Nat.le_of_ble_eq_true rfl) dX8_act_413 (fun v_ w1_ hp => ?_)
    obtain ⟨rfl, rfl⟩ := hp
    show Z X (0) (0) (mw E r (mst S (nI (h + 1)) (rkA 11 (f (h + 1)) ab) (vp_updL f h (rk 11 (f h) (f (h + 1)))) hg)) [(0, .ref (r 0)), (1, .int (nI ro)), (2, .int (nI k)), (3, .int (nI 11)), (5, .long (f h)), (7, .long (f (h + 1)))] 416 []
    exact z_vret (pc := 416) F hR dX8_act_416 (Nat.le_of_ble_eq_true rfl) (Nat.le_of_ble_eq_true rfl) ⟨rfl, rfl⟩
  · refine z_tableIn (off := 341) (tgt := 349) (pc := 8) F dX8_act_8 (by decide) (by decide) (by decide) (by decide) ?_
    refine z_iload_n (pc := 349) F dX8_act_349 rfl 3 rfl ?_
    refine z_bipush (pc := 350) (v := 6) F dX8_act_350 (by decide) ?_
    refine z_icmp_ge (pc := 352) (tgt := 391) F dX8_act_352 (by decide) (fun _ => ?_) (fun h => absurd h (by decide))
    refine z_aload_n (pc := 391) F dX8_act_391 rfl 0 rfl ?_
    refine z_callVW (pc := 392) (q0 := 0) (ci := 8) (rest := []) F (c_X8_pop l E r S (h + 1) ab f hg (by first | assumption | rfl | omega)) 0 ww_Model_104 (by decide +kernel) rfl ⟨Nat.le_of_ble_eq_true rfl, Nat.le_of_ble_eq_true rfl⟩ ⟨Nat.le_of_ble_eq_true rfl, Nat.le_of_ble_eq_true rfl⟩ rfl rfl rfl rfl (Nat.le_of_ble_eq_true rfl) dX8_act_392 (fun v_ w1_ hp => ?_)
    obtain ⟨rfl, rfl⟩ := hp
    show Z X (0) (0) (mw E r (mst S (nI (h + 1)) ab f hg)) [(0, .ref (r 0)), (1, .int (nI ro)), (2, .int (nI k)), (3, .int (nI 12))] 395 [.long (f (h + 1))]
    refine z_lstore (pc := 395) (lv' := [(0, .ref (r 0)), (1, .int (nI ro)), (2, .int (nI k)), (3, .int (nI 12)), (7, .long (f (h + 1)))]) F dX8_act_395 (by decide) [1, 2, 3, 4, 0] rfl ?_
    refine z_aload_n (pc := 397) F dX8_act_397 rfl 0 rfl ?_
    refine z_callVW (pc := 398) (q0 := 0) (ci := 8) (rest := []) F (c_X8_pop l E r S h ab f hg (by first | assumption | rfl | omega)) 0 ww_Model_104 (by decide +kernel) rfl ⟨Nat.le_of_ble_eq_true rfl, Nat.le_of_ble_eq_true rfl⟩ ⟨Nat.le_of_ble_eq_true rfl, Nat.le_of_ble_eq_true rfl⟩ rfl rfl rfl rfl (Nat.le_of_ble_eq_true rfl) dX8_act_398 (fun v_ w1_ hp => ?_)
    obtain ⟨rfl, rfl⟩ := hp
    show Z X (0) (0) (mw E r (mst S (nI h) ab f hg)) [(0, .ref (r 0)), (1, .int (nI ro)), (2, .int (nI k)), (3, .int (nI 12)), (7, .long (f (h + 1)))] 401 [.long (f h)]
    refine z_lstore (pc := 401) (lv' := [(0, .ref (r 0)), (1, .int (nI ro)), (2, .int (nI k)), (3, .int (nI 12)), (5, .long (f h)), (7, .long (f (h + 1)))]) F dX8_act_401 (by decide) [1, 2, 3, 4, 0, 5] rfl ?_
    refine z_aload_n (pc := 403) F dX8_act_403 rfl 0 rfl ?_
    refine z_aload_n (pc := 404) F dX8_act_404 rfl 0 rfl ?_
    refine z_iload_n (pc := 405) F dX8_act_405 rfl 3 rfl ?_
    refine z_lload (pc := 406) F dX8_act_406 4 rfl ?_
    refine z_lload (pc := 408) F dX8_act_408 5 rfl ?_
    refine z_callVW (pc := 410) (q0 := 0) (ci := 8) (rest := [.ref (r 0)]) F (c_X8_reckon l E r S (nI h) ab f hg 12 (f h) (f (h + 1)) (by first | assumption | rfl | omega) (by first | assumption | rfl | omega)) 3 ww_Model_122 (by decide +kernel) rfl ⟨Nat.le_of_ble_eq_true rfl, Nat.le_of_ble_eq_true rfl⟩ ⟨Nat.le_of_ble_eq_true rfl, Nat.le_of_ble_eq_true rfl⟩ rfl rfl rfl rfl (Nat.le_of_ble_eq_true rfl) dX8_act_410 (fun v_ w1_ hp => ?_)
    obtain ⟨rfl, rfl⟩ := hp
    show Z X (0) (0) (mw E r (mst S (nI h) (rkA 12 (f (h + 1)) ab) f hg)) [(0, .ref (r 0)), (1, .int (nI ro)), (2, .int (nI k)), (3, .int (nI 12)), (5, .long (f h)), (7, .long (f (h + 1)))] 413 [.long (rk 12 (f h) (f (h + 1))), .ref (r 0)]
    refine z_callVW (pc := 413) (q0 := 0) (ci := 8) (rest := []) F (c_X8_push l E r S h (rkA 12 (f (h + 1)) ab) f hg (rk 12 (f h) (f (h + 1))) (by first | assumption | rfl | omega)) 1 ww_Model_112 (by decide +kernel) rfl ⟨Nat.le_of_ble_eq_true rfl, Nat.le_of_ble_eq_true rfl⟩ ⟨Nat.le_of_ble_eq_true rfl, Nat.le_of_ble_eq_true rfl⟩ rfl rfl rfl rfl (Nat.le_of_ble_eq_true rfl) dX8_act_413 (fun v_ w1_ hp => ?_)
    obtain ⟨rfl, rfl⟩ := hp
    show Z X (0) (0) (mw E r (mst S (nI (h + 1)) (rkA 12 (f (h + 1)) ab) (vp_updL f h (rk 12 (f h) (f (h + 1)))) hg)) [(0, .ref (r 0)), (1, .int (nI ro)), (2, .int (nI k)), (3, .int (nI 12)), (5, .long (f h)), (7, .long (f (h + 1)))] 416 []
    exact z_vret (pc := 416) F hR dX8_act_416 (Nat.le_of_ble_eq_true rfl) (Nat.le_of_ble_eq_true rfl) ⟨rfl, rfl⟩
  · refine z_tableIn (off := 341) (tgt := 349) (pc := 8) F dX8_act_8 (by decide) (by decide) (by decide) (by decide) ?_
    refine z_iload_n (pc := 349) F dX8_act_349 rfl 3 rfl ?_
    refine z_bipush (pc := 350) (v := 6) F dX8_act_350 (by decide) ?_
    refine z_icmp_ge (pc := 352) (tgt := 391) F dX8_act_352 (by decide) (fun _ => ?_) (fun h => absurd h (by decide))
    refine z_aload_n (pc := 391) F dX8_act_391 rfl 0 rfl ?_
    refine z_callVW (pc := 392) (q0 := 0) (ci := 8) (rest := []) F (c_X8_pop l E r S (h + 1) ab f hg (by first | assumption | rfl | omega)) 0 ww_Model_104 (by decide +kernel) rfl ⟨Nat.le_of_ble_eq_true rfl, Nat.le_of_ble_eq_true rfl⟩ ⟨Nat.le_of_ble_eq_true rfl, Nat.le_of_ble_eq_true rfl⟩ rfl rfl rfl rfl (Nat.le_of_ble_eq_true rfl) dX8_act_392 (fun v_ w1_ hp => ?_)
    obtain ⟨rfl, rfl⟩ := hp
    show Z X (0) (0) (mw E r (mst S (nI (h + 1)) ab f hg)) [(0, .ref (r 0)), (1, .int (nI ro)), (2, .int (nI k)), (3, .int (nI 13))] 395 [.long (f (h + 1))]
    refine z_lstore (pc := 395) (lv' := [(0, .ref (r 0)), (1, .int (nI ro)), (2, .int (nI k)), (3, .int (nI 13)), (7, .long (f (h + 1)))]) F dX8_act_395 (by decide) [1, 2, 3, 4, 0] rfl ?_
    refine z_aload_n (pc := 397) F dX8_act_397 rfl 0 rfl ?_
    refine z_callVW (pc := 398) (q0 := 0) (ci := 8) (rest := []) F (c_X8_pop l E r S h ab f hg (by first | assumption | rfl | omega)) 0 ww_Model_104 (by decide +kernel) rfl ⟨Nat.le_of_ble_eq_true rfl, Nat.le_of_ble_eq_true rfl⟩ ⟨Nat.le_of_ble_eq_true rfl, Nat.le_of_ble_eq_true rfl⟩ rfl rfl rfl rfl (Nat.le_of_ble_eq_true rfl) dX8_act_398 (fun v_ w1_ hp => ?_)
    obtain ⟨rfl, rfl⟩ := hp
    show Z X (0) (0) (mw E r (mst S (nI h) ab f hg)) [(0, .ref (r 0)), (1, .int (nI ro)), (2, .int (nI k)), (3, .int (nI 13)), (7, .long (f (h + 1)))] 401 [.long (f h)]
    refine z_lstore (pc := 401) (lv' := [(0, .ref (r 0)), (1, .int (nI ro)), (2, .int (nI k)), (3, .int (nI 13)), (5, .long (f h)), (7, .long (f (h + 1)))]) F dX8_act_401 (by decide) [1, 2, 3, 4, 0, 5] rfl ?_
    refine z_aload_n (pc := 403) F dX8_act_403 rfl 0 rfl ?_
    refine z_aload_n (pc := 404) F dX8_act_404 rfl 0 rfl ?_
    refine z_iload_n (pc := 405) F dX8_act_405 rfl 3 rfl ?_
    refine z_lload (pc := 406) F dX8_act_406 4 rfl ?_
    refine z_lload (pc := 408) F dX8_act_408 5 rfl ?_
    refine z_callVW (pc := 410) (q0 := 0) (ci := 8) (rest := [.ref (r 0)]) F (c_X8_reckon l E r S (nI h) ab f hg 13 (f h) (f (h + 1)) (by first | assumption | rfl | omega) (by first | assumption | rfl | omega)) 3 ww_Model_122 (by decide +kernel) rfl ⟨Nat.le_of_ble_eq_true rfl, Nat.le_of_ble_eq_true rfl⟩ ⟨Nat.le_of_ble_eq_true rfl, Nat.le_of_ble_eq_true rfl⟩ rfl rfl rfl rfl (Nat.le_of_ble_eq_true rfl) dX8_act_410 (fun v_ w1_ hp => ?_)
    obtain ⟨rfl, rfl⟩ := hp
    show Z X (0) (0) (mw E r (mst S (nI h) (rkA 13 (f (h + 1)) ab) f hg)) [(0, .ref (r 0)), (1, .int (nI ro)), (2, .int (nI k)), (3, .int (nI 13)), (5, .long (f h)), (7, .long (f (h + 1)))] 413 [.long (rk 13 (f h) (f (h + 1))), .ref (r 0)]
    refine z_callVW (pc := 413) (q0 := 0) (ci := 8) (rest := []) F (c_X8_push l E r S h (rkA 13 (f (h + 1)) ab) f hg (rk 13 (f h) (f (h + 1))) (by first | assumption | rfl | omega)) 1 ww_Model_112 (by decide +kernel) rfl ⟨Nat.le_of_ble_eq_true rfl, Nat.le_of_ble_eq_true rfl⟩ ⟨Nat.le_of_ble_eq_true rfl, Nat.le_of_ble_eq_true rfl⟩ rfl rfl rfl rfl (Nat.le_of_ble_eq_true rfl) dX8_act_413 (fun v_ w1_ hp => ?_)
    obtain ⟨rfl, rfl⟩ := hp
    show Z X (0) (0) (mw E r (mst S (nI (h + 1)) (rkA 13 (f (h + 1)) ab) (vp_updL f h (rk 13 (f h) (f (h + 1)))) hg)) [(0, .ref (r 0)), (1, .int (nI ro)), (2, .int (nI k)), (3, .int (nI 13)), (5, .long (f h)), (7, .long (f (h + 1)))] 416 []
    exact z_vret (pc := 416) F hR dX8_act_416 (Nat.le_of_ble_eq_true rfl) (Nat.le_of_ble_eq_true rfl) ⟨rfl, rfl⟩
  · refine z_tableIn (off := 341) (tgt := 349) (pc := 8) F dX8_act_8 (by decide) (by decide) (by decide) (by decide) ?_
    refine z_iload_n (pc := 349) F dX8_act_349 rfl 3 rfl ?_
    refine z_bipush (pc := 350) (v := 6) F dX8_act_350 (by decide) ?_
    refine z_icmp_ge (pc := 352) (tgt := 391) F dX8_act_352 (by decide) (fun _ => ?_) (fun h => absurd h (by decide))
    refine z_aload_n (pc := 391) F dX8_act_391 rfl 0 rfl ?_
    refine z_callVW (pc := 392) (q0 := 0) (ci := 8) (rest := []) F (c_X8_pop l E r S (h + 1) ab f hg (by first | assumption | rfl | omega)) 0 ww_Model_104 (by decide +kernel) rfl ⟨Nat.le_of_ble_eq_true rfl, Nat.le_of_ble_eq_true rfl⟩ ⟨Nat.le_of_ble_eq_true rfl, Nat.le_of_ble_eq_true rfl⟩ rfl rfl rfl rfl (Nat.le_of_ble_eq_true rfl) dX8_act_392 (fun v_ w1_ hp => ?_)
    obtain ⟨rfl, rfl⟩ := hp
    show Z X (0) (0) (mw E r (mst S (nI (h + 1)) ab f hg)) [(0, .ref (r 0)), (1, .int (nI ro)), (2, .int (nI k)), (3, .int (nI 14))] 395 [.long (f (h + 1))]
    refine z_lstore (pc := 395) (lv' := [(0, .ref (r 0)), (1, .int (nI ro)), (2, .int (nI k)), (3, .int (nI 14)), (7, .long (f (h + 1)))]) F dX8_act_395 (by decide) [1, 2, 3, 4, 0] rfl ?_
    refine z_aload_n (pc := 397) F dX8_act_397 rfl 0 rfl ?_
    refine z_callVW (pc := 398) (q0 := 0) (ci := 8) (rest := []) F (c_X8_pop l E r S h ab f hg (by first | assumption | rfl | omega)) 0 ww_Model_104 (by decide +kernel) rfl ⟨Nat.le_of_ble_eq_true rfl, Nat.le_of_ble_eq_true rfl⟩ ⟨Nat.le_of_ble_eq_true rfl, Nat.le_of_ble_eq_true rfl⟩ rfl rfl rfl rfl (Nat.le_of_ble_eq_true rfl) dX8_act_398 (fun v_ w1_ hp => ?_)
    obtain ⟨rfl, rfl⟩ := hp
    show Z X (0) (0) (mw E r (mst S (nI h) ab f hg)) [(0, .ref (r 0)), (1, .int (nI ro)), (2, .int (nI k)), (3, .int (nI 14)), (7, .long (f (h + 1)))] 401 [.long (f h)]
    refine z_lstore (pc := 401) (lv' := [(0, .ref (r 0)), (1, .int (nI ro)), (2, .int (nI k)), (3, .int (nI 14)), (5, .long (f h)), (7, .long (f (h + 1)))]) F dX8_act_401 (by decide) [1, 2, 3, 4, 0, 5] rfl ?_
    refine z_aload_n (pc := 403) F dX8_act_403 rfl 0 rfl ?_
    refine z_aload_n (pc := 404) F dX8_act_404 rfl 0 rfl ?_
    refine z_iload_n (pc := 405) F dX8_act_405 rfl 3 rfl ?_
    refine z_lload (pc := 406) F dX8_act_406 4 rfl ?_
    refine z_lload (pc := 408) F dX8_act_408 5 rfl ?_
    refine z_callVW (pc := 410) (q0 := 0) (ci := 8) (rest := [.ref (r 0)]) F (c_X8_reckon l E r S (nI h) ab f hg 14 (f h) (f (h + 1)) (by first | assumption | rfl | omega) (by first | assumption | rfl | omega)) 3 ww_Model_122 (by decide +kernel) rfl ⟨Nat.le_of_ble_eq_true rfl, Nat.le_of_ble_eq_true rfl⟩ ⟨Nat.le_of_ble_eq_true rfl, Nat.le_of_ble_eq_true rfl⟩ rfl rfl rfl rfl (Nat.le_of_ble_eq_true rfl) dX8_act_410 (fun v_ w1_ hp => ?_)
    obtain ⟨rfl, rfl⟩ := hp
    show Z X (0) (0) (mw E r (mst S (nI h) (rkA 14 (f (h + 1)) ab) f hg)) [(0, .ref (r 0)), (1, .int (nI ro)), (2, .int (nI k)), (3, .int (nI 14)), (5, .long (f h)), (7, .long (f (h + 1)))] 413 [.long (rk 14 (f h) (f (h + 1))), .ref (r 0)]
    refine z_callVW (pc := 413) (q0 := 0) (ci := 8) (rest := []) F (c_X8_push l E r S h (rkA 14 (f (h + 1)) ab) f hg (rk 14 (f h) (f (h + 1))) (by first | assumption | rfl | omega)) 1 ww_Model_112 (by decide +kernel) rfl ⟨Nat.le_of_ble_eq_true rfl, Nat.le_of_ble_eq_true rfl⟩ ⟨Nat.le_of_ble_eq_true rfl, Nat.le_of_ble_eq_true rfl⟩ rfl rfl rfl rfl (Nat.le_of_ble_eq_true rfl) dX8_act_413 (fun v_ w1_ hp => ?_)
    obtain ⟨rfl, rfl⟩ := hp
    show Z X (0) (0) (mw E r (mst S (nI (h + 1)) (rkA 14 (f (h + 1)) ab) (vp_updL f h (rk 14 (f h) (f (h + 1)))) hg)) [(0, .ref (r 0)), (1, .int (nI ro)), (2, .int (nI k)), (3, .int (nI 14)), (5, .long (f h)), (7, .long (f (h + 1)))] 416 []
    exact z_vret (pc := 416) F hR dX8_act_416 (Nat.le_of_ble_eq_true rfl) (Nat.le_of_ble_eq_true rfl) ⟨rfl, rfl⟩
  · refine z_tableIn (off := 341) (tgt := 349) (pc := 8) F dX8_act_8 (by decide) (by decide) (by decide) (by decide) ?_
    refine z_iload_n (pc := 349) F dX8_act_349 rfl 3 rfl ?_
    refine z_bipush (pc := 350) (v := 6) F dX8_act_350 (by decide) ?_
    refine z_icmp_ge (pc := 352) (tgt := 391) F dX8_act_352 (by decide) (fun _ => ?_) (fun h => absurd h (by decide))
    refine z_aload_n (pc := 391) F dX8_act_391 rfl 0 rfl ?_
    refine z_callVW (pc := 392) (q0 := 0) (ci := 8) (rest := []) F (c_X8_pop l E r S (h + 1) ab f hg (by first | assumption | rfl | omega)) 0 ww_Model_104 (by decide +kernel) rfl ⟨Nat.le_of_ble_eq_true rfl, Nat.le_of_ble_eq_true rfl⟩ ⟨Nat.le_of_ble_eq_true rfl, Nat.le_of_ble_eq_true rfl⟩ rfl rfl rfl rfl (Nat.le_of_ble_eq_true rfl) dX8_act_392 (fun v_ w1_ hp => ?_)
    obtain ⟨rfl, rfl⟩ := hp
    show Z X (0) (0) (mw E r (mst S (nI (h + 1)) ab f hg)) [(0, .ref (r 0)), (1, .int (nI ro)), (2, .int (nI k)), (3, .int (nI 15))] 395 [.long (f (h + 1))]
    refine z_lstore (pc := 395) (lv' := [(0, .ref (r 0)), (1, .int (nI ro)), (2, .int (nI k)), (3, .int (nI 15)), (7, .long (f (h + 1)))]) F dX8_act_395 (by decide) [1, 2, 3, 4, 0] rfl ?_
    refine z_aload_n (pc := 397) F dX8_act_397 rfl 0 rfl ?_
    refine z_callVW (pc := 398) (q0 := 0) (ci := 8) (rest := []) F (c_X8_pop l E r S h ab f hg (by first | assumption | rfl | omega)) 0 ww_Model_104 (by decide +kernel) rfl ⟨Nat.le_of_ble_eq_true rfl, Nat.le_of_ble_eq_true rfl⟩ ⟨Nat.le_of_ble_eq_true rfl, Nat.le_of_ble_eq_true rfl⟩ rfl rfl rfl rfl (Nat.le_of_ble_eq_true rfl) dX8_act_398 (fun v_ w1_ hp => ?_)
    obtain ⟨rfl, rfl⟩ := hp
    show Z X (0) (0) (mw E r (mst S (nI h) ab f hg)) [(0, .ref (r 0)), (1, .int (nI ro)), (2, .int (nI k)), (3, .int (nI 15)), (7, .long (f (h + 1)))] 401 [.long (f h)]
    refine z_lstore (pc := 401) (lv' := [(0, .ref (r 0)), (1, .int (nI ro)), (2, .int (nI k)), (3, .int (nI 15)), (5, .long (f h)), (7, .long (f (h + 1)))]) F dX8_act_401 (by decide) [1, 2, 3, 4, 0, 5] rfl ?_
    refine z_aload_n (pc := 403) F dX8_act_403 rfl 0 rfl ?_
    refine z_aload_n (pc := 404) F dX8_act_404 rfl 0 rfl ?_
    refine z_iload_n (pc := 405) F dX8_act_405 rfl 3 rfl ?_
    refine z_lload (pc := 406) F dX8_act_406 4 rfl ?_
    refine z_lload (pc := 408) F dX8_act_408 5 rfl ?_
    refine z_callVW (pc := 410) (q0 := 0) (ci := 8) (rest := [.ref (r 0)]) F (c_X8_reckon l E r S (nI h) ab f hg 15 (f h) (f (h + 1)) (by first | assumption | rfl | omega) (by first | assumption | rfl | omega)) 3 ww_Model_122 (by decide +kernel) rfl ⟨Nat.le_of_ble_eq_true rfl, Nat.le_of_ble_eq_true rfl⟩ ⟨Nat.le_of_ble_eq_true rfl, Nat.le_of_ble_eq_true rfl⟩ rfl rfl rfl rfl (Nat.le_of_ble_eq_true rfl) dX8_act_410 (fun v_ w1_ hp => ?_)
    obtain ⟨rfl, rfl⟩ := hp
    show Z X (0) (0) (mw E r (mst S (nI h) (rkA 15 (f (h + 1)) ab) f hg)) [(0, .ref (r 0)), (1, .int (nI ro)), (2, .int (nI k)), (3, .int (nI 15)), (5, .long (f h)), (7, .long (f (h + 1)))] 413 [.long (rk 15 (f h) (f (h + 1))), .ref (r 0)]
    refine z_callVW (pc := 413) (q0 := 0) (ci := 8) (rest := []) F (c_X8_push l E r S h (rkA 15 (f (h + 1)) ab) f hg (rk 15 (f h) (f (h + 1))) (by first | assumption | rfl | omega)) 1 ww_Model_112 (by decide +kernel) rfl ⟨Nat.le_of_ble_eq_true rfl, Nat.le_of_ble_eq_true rfl⟩ ⟨Nat.le_of_ble_eq_true rfl, Nat.le_of_ble_eq_true rfl⟩ rfl rfl rfl rfl (Nat.le_of_ble_eq_true rfl) dX8_act_413 (fun v_ w1_ hp => ?_)
    obtain ⟨rfl, rfl⟩ := hp
    show Z X (0) (0) (mw E r (mst S (nI (h + 1)) (rkA 15 (f (h + 1)) ab) (vp_updL f h (rk 15 (f h) (f (h + 1)))) hg)) [(0, .ref (r 0)), (1, .int (nI ro)), (2, .int (nI k)), (3, .int (nI 15)), (5, .long (f h)), (7, .long (f (h + 1)))] 416 []
    exact z_vret (pc := 416) F hR dX8_act_416 (Nat.le_of_ble_eq_true rfl) (Nat.le_of_ble_eq_true rfl) ⟨rfl, rfl⟩
  · refine z_tableIn (off := 341) (tgt := 349) (pc := 8) F dX8_act_8 (by decide) (by decide) (by decide) (by decide) ?_
    refine z_iload_n (pc := 349) F dX8_act_349 rfl 3 rfl ?_
    refine z_bipush (pc := 350) (v := 6) F dX8_act_350 (by decide) ?_
    refine z_icmp_ge (pc := 352) (tgt := 391) F dX8_act_352 (by decide) (fun _ => ?_) (fun h => absurd h (by decide))
    refine z_aload_n (pc := 391) F dX8_act_391 rfl 0 rfl ?_
    refine z_callVW (pc := 392) (q0 := 0) (ci := 8) (rest := []) F (c_X8_pop l E r S (h + 1) ab f hg (by first | assumption | rfl | omega)) 0 ww_Model_104 (by decide +kernel) rfl ⟨Nat.le_of_ble_eq_true rfl, Nat.le_of_ble_eq_true rfl⟩ ⟨Nat.le_of_ble_eq_true rfl, Nat.le_of_ble_eq_true rfl⟩ rfl rfl rfl rfl (Nat.le_of_ble_eq_true rfl) dX8_act_392 (fun v_ w1_ hp => ?_)
    obtain ⟨rfl, rfl⟩ := hp
    show Z X (0) (0) (mw E r (mst S (nI (h + 1)) ab f hg)) [(0, .ref (r 0)), (1, .int (nI ro)), (2, .int (nI k)), (3, .int (nI 16))] 395 [.long (f (h + 1))]
    refine z_lstore (pc := 395) (lv' := [(0, .ref (r 0)), (1, .int (nI ro)), (2, .int (nI k)), (3, .int (nI 16)), (7, .long (f (h + 1)))]) F dX8_act_395 (by decide) [1, 2, 3, 4, 0] rfl ?_
    refine z_aload_n (pc := 397) F dX8_act_397 rfl 0 rfl ?_
    refine z_callVW (pc := 398) (q0 := 0) (ci := 8) (rest := []) F (c_X8_pop l E r S h ab f hg (by first | assumption | rfl | omega)) 0 ww_Model_104 (by decide +kernel) rfl ⟨Nat.le_of_ble_eq_true rfl, Nat.le_of_ble_eq_true rfl⟩ ⟨Nat.le_of_ble_eq_true rfl, Nat.le_of_ble_eq_true rfl⟩ rfl rfl rfl rfl (Nat.le_of_ble_eq_true rfl) dX8_act_398 (fun v_ w1_ hp => ?_)
    obtain ⟨rfl, rfl⟩ := hp
    show Z X (0) (0) (mw E r (mst S (nI h) ab f hg)) [(0, .ref (r 0)), (1, .int (nI ro)), (2, .int (nI k)), (3, .int (nI 16)), (7, .long (f (h + 1)))] 401 [.long (f h)]
    refine z_lstore (pc := 401) (lv' := [(0, .ref (r 0)), (1, .int (nI ro)), (2, .int (nI k)), (3, .int (nI 16)), (5, .long (f h)), (7, .long (f (h + 1)))]) F dX8_act_401 (by decide) [1, 2, 3, 4, 0, 5] rfl ?_
    refine z_aload_n (pc := 403) F dX8_act_403 rfl 0 rfl ?_
    refine z_aload_n (pc := 404) F dX8_act_404 rfl 0 rfl ?_
    refine z_iload_n (pc := 405) F dX8_act_405 rfl 3 rfl ?_
    refine z_lload (pc := 406) F dX8_act_406 4 rfl ?_
    refine z_lload (pc := 408) F dX8_act_408 5 rfl ?_
    refine z_callVW (pc := 410) (q0 := 0) (ci := 8) (rest := [.ref (r 0)]) F (c_X8_reckon l E r S (nI h) ab f hg 16 (f h) (f (h + 1)) (by first | assumption | rfl | omega) (by first | assumption | rfl | omega)) 3 ww_Model_122 (by decide +kernel) rfl ⟨Nat.le_of_ble_eq_true rfl, Nat.le_of_ble_eq_true rfl⟩ ⟨Nat.le_of_ble_eq_true rfl, Nat.le_of_ble_eq_true rfl⟩ rfl rfl rfl rfl (Nat.le_of_ble_eq_true rfl) dX8_act_410 (fun v_ w1_ hp => ?_)
    obtain ⟨rfl, rfl⟩ := hp
    show Z X (0) (0) (mw E r (mst S (nI h) (rkA 16 (f (h + 1)) ab) f hg)) [(0, .ref (r 0)), (1, .int (nI ro)), (2, .int (nI k)), (3, .int (nI 16)), (5, .long (f h)), (7, .long (f (h + 1)))] 413 [.long (rk 16 (f h) (f (h + 1))), .ref (r 0)]
    refine z_callVW (pc := 413) (q0 := 0) (ci := 8) (rest := []) F (c_X8_push l E r S h (rkA 16 (f (h + 1)) ab) f hg (rk 16 (f h) (f (h + 1))) (by first | assumption | rfl | omega)) 1 ww_Model_112 (by decide +kernel) rfl ⟨Nat.le_of_ble_eq_true rfl, Nat.le_of_ble_eq_true rfl⟩ ⟨Nat.le_of_ble_eq_true rfl, Nat.le_of_ble_eq_true rfl⟩ rfl rfl rfl rfl (Nat.le_of_ble_eq_true rfl) dX8_act_413 (fun v_ w1_ hp => ?_)
    obtain ⟨rfl, rfl⟩ := hp
    show Z X (0) (0) (mw E r (mst S (nI (h + 1)) (rkA 16 (f (h + 1)) ab) (vp_updL f h (rk 16 (f h) (f (h + 1)))) hg)) [(0, .ref (r 0)), (1, .int (nI ro)), (2, .int (nI k)), (3, .int (nI 16)), (5, .long (f h)), (7, .long (f (h + 1)))] 416 []
    exact z_vret (pc := 416) F hR dX8_act_416 (Nat.le_of_ble_eq_true rfl) (Nat.le_of_ble_eq_true rfl) ⟨rfl, rfl⟩
  · refine z_tableIn (off := 341) (tgt := 349) (pc := 8) F dX8_act_8 (by decide) (by decide) (by decide) (by decide) ?_
    refine z_iload_n (pc := 349) F dX8_act_349 rfl 3 rfl ?_
    refine z_bipush (pc := 350) (v := 6) F dX8_act_350 (by decide) ?_
    refine z_icmp_ge (pc := 352) (tgt := 391) F dX8_act_352 (by decide) (fun _ => ?_) (fun h => absurd h (by decide))
    refine z_aload_n (pc := 391) F dX8_act_391 rfl 0 rfl ?_
    refine z_callVW (pc := 392) (q0 := 0) (ci := 8) (rest := []) F (c_X8_pop l E r S (h + 1) ab f hg (by first | assumption | rfl | omega)) 0 ww_Model_104 (by decide +kernel) rfl ⟨Nat.le_of_ble_eq_true rfl, Nat.le_of_ble_eq_true rfl⟩ ⟨Nat.le_of_ble_eq_true rfl, Nat.le_of_ble_eq_true rfl⟩ rfl rfl rfl rfl (Nat.le_of_ble_eq_true rfl) dX8_act_392 (fun v_ w1_ hp => ?_)
    obtain ⟨rfl, rfl⟩ := hp
    show Z X (0) (0) (mw E r (mst S (nI (h + 1)) ab f hg)) [(0, .ref (r 0)), (1, .int (nI ro)), (2, .int (nI k)), (3, .int (nI 17))] 395 [.long (f (h + 1))]
    refine z_lstore (pc := 395) (lv' := [(0, .ref (r 0)), (1, .int (nI ro)), (2, .int (nI k)), (3, .int (nI 17)), (7, .long (f (h + 1)))]) F dX8_act_395 (by decide) [1, 2, 3, 4, 0] rfl ?_
    refine z_aload_n (pc := 397) F dX8_act_397 rfl 0 rfl ?_
    refine z_callVW (pc := 398) (q0 := 0) (ci := 8) (rest := []) F (c_X8_pop l E r S h ab f hg (by first | assumption | rfl | omega)) 0 ww_Model_104 (by decide +kernel) rfl ⟨Nat.le_of_ble_eq_true rfl, Nat.le_of_ble_eq_true rfl⟩ ⟨Nat.le_of_ble_eq_true rfl, Nat.le_of_ble_eq_true rfl⟩ rfl rfl rfl rfl (Nat.le_of_ble_eq_true rfl) dX8_act_398 (fun v_ w1_ hp => ?_)
    obtain ⟨rfl, rfl⟩ := hp
    show Z X (0) (0) (mw E r (mst S (nI h) ab f hg)) [(0, .ref (r 0)), (1, .int (nI ro)), (2, .int (nI k)), (3, .int (nI 17)), (7, .long (f (h + 1)))] 401 [.long (f h)]
    refine z_lstore (pc := 401) (lv' := [(0, .ref (r 0)), (1, .int (nI ro)), (2, .int (nI k)), (3, .int (nI 17)), (5, .long (f h)), (7, .long (f (h + 1)))]) F dX8_act_401 (by decide) [1, 2, 3, 4, 0, 5] rfl ?_
    refine z_aload_n (pc := 403) F dX8_act_403 rfl 0 rfl ?_
    refine z_aload_n (pc := 404) F dX8_act_404 rfl 0 rfl ?_
    refine z_iload_n (pc := 405) F dX8_act_405 rfl 3 rfl ?_
    refine z_lload (pc := 406) F dX8_act_406 4 rfl ?_
    refine z_lload (pc := 408) F dX8_act_408 5 rfl ?_
    refine z_callVW (pc := 410) (q0 := 0) (ci := 8) (rest := [.ref (r 0)]) F (c_X8_reckon l E r S (nI h) ab f hg 17 (f h) (f (h + 1)) (by first | assumption | rfl | omega) (by first | assumption | rfl | omega)) 3 ww_Model_122 (by decide +kernel) rfl ⟨Nat.le_of_ble_eq_true rfl, Nat.le_of_ble_eq_true rfl⟩ ⟨Nat.le_of_ble_eq_true rfl, Nat.le_of_ble_eq_true rfl⟩ rfl rfl rfl rfl (Nat.le_of_ble_eq_true rfl) dX8_act_410 (fun v_ w1_ hp => ?_)
    obtain ⟨rfl, rfl⟩ := hp
    show Z X (0) (0) (mw E r (mst S (nI h) (rkA 17 (f (h + 1)) ab) f hg)) [(0, .ref (r 0)), (1, .int (nI ro)), (2, .int (nI k)), (3, .int (nI 17)), (5, .long (f h)), (7, .long (f (h + 1)))] 413 [.long (rk 17 (f h) (f (h + 1))), .ref (r 0)]
    refine z_callVW (pc := 413) (q0 := 0) (ci := 8) (rest := []) F (c_X8_push l E r S h (rkA 17 (f (h + 1)) ab) f hg (rk 17 (f h) (f (h + 1))) (by first | assumption | rfl | omega)) 1 ww_Model_112 (by decide +kernel) rfl ⟨Nat.le_of_ble_eq_true rfl, Nat.le_of_ble_eq_true rfl⟩ ⟨Nat.le_of_ble_eq_true rfl, Nat.le_of_ble_eq_true rfl⟩ rfl rfl rfl rfl (Nat.le_of_ble_eq_true rfl) dX8_act_413 (fun v_ w1_ hp => ?_)
    obtain ⟨rfl, rfl⟩ := hp
    show Z X (0) (0) (mw E r (mst S (nI (h + 1)) (rkA 17 (f (h + 1)) ab) (vp_updL f h (rk 17 (f h) (f (h + 1)))) hg)) [(0, .ref (r 0)), (1, .int (nI ro)), (2, .int (nI k)), (3, .int (nI 17)), (5, .long (f h)), (7, .long (f (h + 1)))] 416 []
    exact z_vret (pc := 416) F hR dX8_act_416 (Nat.le_of_ble_eq_true rfl) (Nat.le_of_ble_eq_true rfl) ⟨rfl, rfl⟩
  · refine z_tableIn (off := 341) (tgt := 349) (pc := 8) F dX8_act_8 (by decide) (by decide) (by decide) (by decide) ?_
    refine z_iload_n (pc := 349) F dX8_act_349 rfl 3 rfl ?_
    refine z_bipush (pc := 350) (v := 6) F dX8_act_350 (by decide) ?_
    refine z_icmp_ge (pc := 352) (tgt := 391) F dX8_act_352 (by decide) (fun _ => ?_) (fun h => absurd h (by decide))
    refine z_aload_n (pc := 391) F dX8_act_391 rfl 0 rfl ?_
    refine z_callVW (pc := 392) (q0 := 0) (ci := 8) (rest := []) F (c_X8_pop l E r S (h + 1) ab f hg (by first | assumption | rfl | omega)) 0 ww_Model_104 (by decide +kernel) rfl ⟨Nat.le_of_ble_eq_true rfl, Nat.le_of_ble_eq_true rfl⟩ ⟨Nat.le_of_ble_eq_true rfl, Nat.le_of_ble_eq_true rfl⟩ rfl rfl rfl rfl (Nat.le_of_ble_eq_true rfl) dX8_act_392 (fun v_ w1_ hp => ?_)
    obtain ⟨rfl, rfl⟩ := hp
    show Z X (0) (0) (mw E r (mst S (nI (h + 1)) ab f hg)) [(0, .ref (r 0)), (1, .int (nI ro)), (2, .int (nI k)), (3, .int (nI 18))] 395 [.long (f (h + 1))]
    refine z_lstore (pc := 395) (lv' := [(0, .ref (r 0)), (1, .int (nI ro)), (2, .int (nI k)), (3, .int (nI 18)), (7, .long (f (h + 1)))]) F dX8_act_395 (by decide) [1, 2, 3, 4, 0] rfl ?_
    refine z_aload_n (pc := 397) F dX8_act_397 rfl 0 rfl ?_
    refine z_callVW (pc := 398) (q0 := 0) (ci := 8) (rest := []) F (c_X8_pop l E r S h ab f hg (by first | assumption | rfl | omega)) 0 ww_Model_104 (by decide +kernel) rfl ⟨Nat.le_of_ble_eq_true rfl, Nat.le_of_ble_eq_true rfl⟩ ⟨Nat.le_of_ble_eq_true rfl, Nat.le_of_ble_eq_true rfl⟩ rfl rfl rfl rfl (Nat.le_of_ble_eq_true rfl) dX8_act_398 (fun v_ w1_ hp => ?_)
    obtain ⟨rfl, rfl⟩ := hp
    show Z X (0) (0) (mw E r (mst S (nI h) ab f hg)) [(0, .ref (r 0)), (1, .int (nI ro)), (2, .int (nI k)), (3, .int (nI 18)), (7, .long (f (h + 1)))] 401 [.long (f h)]
    refine z_lstore (pc := 401) (lv' := [(0, .ref (r 0)), (1, .int (nI ro)), (2, .int (nI k)), (3, .int (nI 18)), (5, .long (f h)), (7, .long (f (h + 1)))]) F dX8_act_401 (by decide) [1, 2, 3, 4, 0, 5] rfl ?_
    refine z_aload_n (pc := 403) F dX8_act_403 rfl 0 rfl ?_
    refine z_aload_n (pc := 404) F dX8_act_404 rfl 0 rfl ?_
    refine z_iload_n (pc := 405) F dX8_act_405 rfl 3 rfl ?_
    refine z_lload (pc := 406) F dX8_act_406 4 rfl ?_
    refine z_lload (pc := 408) F dX8_act_408 5 rfl ?_
    refine z_callVW (pc := 410) (q0 := 0) (ci := 8) (rest := [.ref (r 0)]) F (c_X8_reckon l E r S (nI h) ab f hg 18 (f h) (f (h + 1)) (by first | assumption | rfl | omega) (by first | assumption | rfl | omega)) 3 ww_Model_122 (by decide +kernel) rfl ⟨Nat.le_of_ble_eq_true rfl, Nat.le_of_ble_eq_true rfl⟩ ⟨Nat.le_of_ble_eq_true rfl, Nat.le_of_ble_eq_true rfl⟩ rfl rfl rfl rfl (Nat.le_of_ble_eq_true rfl) dX8_act_410 (fun v_ w1_ hp => ?_)
    obtain ⟨rfl, rfl⟩ := hp
    show Z X (0) (0) (mw E r (mst S (nI h) (rkA 18 (f (h + 1)) ab) f hg)) [(0, .ref (r 0)), (1, .int (nI ro)), (2, .int (nI k)), (3, .int (nI 18)), (5, .long (f h)), (7, .long (f (h + 1)))] 413 [.long (rk 18 (f h) (f (h + 1))), .ref (r 0)]
    refine z_callVW (pc := 413) (q0 := 0) (ci := 8) (rest := []) F (c_X8_push l E r S h (rkA 18 (f (h + 1)) ab) f hg (rk 18 (f h) (f (h + 1))) (by first | assumption | rfl | omega)) 1 ww_Model_112 (by decide +kernel) rfl ⟨Nat.le_of_ble_eq_true rfl, Nat.le_of_ble_eq_true rfl⟩ ⟨Nat.le_of_ble_eq_true rfl, Nat.le_of_ble_eq_true rfl⟩ rfl rfl rfl rfl (Nat.le_of_ble_eq_true rfl) dX8_act_413 (fun v_ w1_ hp => ?_)
    obtain ⟨rfl, rfl⟩ := hp
    show Z X (0) (0) (mw E r (mst S (nI (h + 1)) (rkA 18 (f (h + 1)) ab) (vp_updL f h (rk 18 (f h) (f (h + 1)))) hg)) [(0, .ref (r 0)), (1, .int (nI ro)), (2, .int (nI k)), (3, .int (nI 18)), (5, .long (f h)), (7, .long (f (h + 1)))] 416 []
    exact z_vret (pc := 416) F hR dX8_act_416 (Nat.le_of_ble_eq_true rfl) (Nat.le_of_ble_eq_true rfl) ⟨rfl, rfl⟩
  · refine z_tableIn (off := 341) (tgt := 349) (pc := 8) F dX8_act_8 (by decide) (by decide) (by decide) (by decide) ?_
    refine z_iload_n (pc := 349) F dX8_act_349 rfl 3 rfl ?_
    refine z_bipush (pc := 350) (v := 6) F dX8_act_350 (by decide) ?_
    refine z_icmp_ge (pc := 352) (tgt := 391) F dX8_act_352 (by decide) (fun _ => ?_) (fun h => absurd h (by decide))
    refine z_aload_n (pc := 391) F dX8_act_391 rfl 0 rfl ?_
    refine z_callVW (pc := 392) (q0 := 0) (ci := 8) (rest := []) F (c_X8_pop l E r S (h + 1) ab f hg (by first | assumption | rfl | omega)) 0 ww_Model_104 (by decide +kernel) rfl ⟨Nat.le_of_ble_eq_true rfl, Nat.le_of_ble_eq_true rfl⟩ ⟨Nat.le_of_ble_eq_true rfl, Nat.le_of_ble_eq_true rfl⟩ rfl rfl rfl rfl (Nat.le_of_ble_eq_true rfl) dX8_act_392 (fun v_ w1_ hp => ?_)
    obtain ⟨rfl, rfl⟩ := hp
    show Z X (0) (0) (mw E r (mst S (nI (h + 1)) ab f hg)) [(0, .ref (r 0)), (1, .int (nI ro)), (2, .int (nI k)), (3, .int (nI 19))] 395 [.long (f (h + 1))]
    refine z_lstore (pc := 395) (lv' := [(0, .ref (r 0)), (1, .int (nI ro)), (2, .int (nI k)), (3, .int (nI 19)), (7, .long (f (h + 1)))]) F dX8_act_395 (by decide) [1, 2, 3, 4, 0] rfl ?_
    refine z_aload_n (pc := 397) F dX8_act_397 rfl 0 rfl ?_
    refine z_callVW (pc := 398) (q0 := 0) (ci := 8) (rest := []) F (c_X8_pop l E r S h ab f hg (by first | assumption | rfl | omega)) 0 ww_Model_104 (by decide +kernel) rfl ⟨Nat.le_of_ble_eq_true rfl, Nat.le_of_ble_eq_true rfl⟩ ⟨Nat.le_of_ble_eq_true rfl, Nat.le_of_ble_eq_true rfl⟩ rfl rfl rfl rfl (Nat.le_of_ble_eq_true rfl) dX8_act_398 (fun v_ w1_ hp => ?_)
    obtain ⟨rfl, rfl⟩ := hp
    show Z X (0) (0) (mw E r (mst S (nI h) ab f hg)) [(0, .ref (r 0)), (1, .int (nI ro)), (2, .int (nI k)), (3, .int (nI 19)), (7, .long (f (h + 1)))] 401 [.long (f h)]
    refine z_lstore (pc := 401) (lv' := [(0, .ref (r 0)), (1, .int (nI ro)), (2, .int (nI k)), (3, .int (nI 19)), (5, .long (f h)), (7, .long (f (h + 1)))]) F dX8_act_401 (by decide) [1, 2, 3, 4, 0, 5] rfl ?_
    refine z_aload_n (pc := 403) F dX8_act_403 rfl 0 rfl ?_
    refine z_aload_n (pc := 404) F dX8_act_404 rfl 0 rfl ?_
    refine z_iload_n (pc := 405) F dX8_act_405 rfl 3 rfl ?_
    refine z_lload (pc := 406) F dX8_act_406 4 rfl ?_
    refine z_lload (pc := 408) F dX8_act_408 5 rfl ?_
    refine z_callVW (pc := 410) (q0 := 0) (ci := 8) (rest := [.ref (r 0)]) F (c_X8_reckon l E r S (nI h) ab f hg 19 (f h) (f (h + 1)) (by first | assumption | rfl | omega) (by first | assumption | rfl | omega)) 3 ww_Model_122 (by decide +kernel) rfl ⟨Nat.le_of_ble_eq_true rfl, Nat.le_of_ble_eq_true rfl⟩ ⟨Nat.le_of_ble_eq_true rfl, Nat.le_of_ble_eq_true rfl⟩ rfl rfl rfl rfl (Nat.le_of_ble_eq_true rfl) dX8_act_410 (fun v_ w1_ hp => ?_)
    obtain ⟨rfl, rfl⟩ := hp
    show Z X (0) (0) (mw E r (mst S (nI h) (rkA 19 (f (h + 1)) ab) f hg)) [(0, .ref (r 0)), (1, .int (nI ro)), (2, .int (nI k)), (3, .int (nI 19)), (5, .long (f h)), (7, .long (f (h + 1)))] 413 [.long (rk 19 (f h) (f (h + 1))), .ref (r 0)]
    refine z_callVW (pc := 413) (q0 := 0) (ci := 8) (rest := []) F (c_X8_push l E r S h (rkA 19 (f (h + 1)) ab) f hg (rk 19 (f h) (f (h + 1))) (by first | assumption | rfl | omega)) 1 ww_Model_112 (by decide +kernel) rfl ⟨Nat.le_of_ble_eq_true rfl, Nat.le_of_ble_eq_true rfl⟩ ⟨Nat.le_of_ble_eq_true rfl, Nat.le_of_ble_eq_true rfl⟩ rfl rfl rfl rfl (Nat.le_of_ble_eq_true rfl) dX8_act_413 (fun v_ w1_ hp => ?_)
    obtain ⟨rfl, rfl⟩ := hp
    show Z X (0) (0) (mw E r (mst S (nI (h + 1)) (rkA 19 (f (h + 1)) ab) (vp_updL f h (rk 19 (f h) (f (h + 1)))) hg)) [(0, .ref (r 0)), (1, .int (nI ro)), (2, .int (nI k)), (3, .int (nI 19)), (5, .long (f h)), (7, .long (f (h + 1)))] 416 []
    exact z_vret (pc := 416) F hR dX8_act_416 (Nat.le_of_ble_eq_true rfl) (Nat.le_of_ble_eq_true rfl) ⟨rfl, rfl⟩
  · refine z_tableIn (off := 341) (tgt := 349) (pc := 8) F dX8_act_8 (by decide) (by decide) (by decide) (by decide) ?_
    refine z_iload_n (pc := 349) F dX8_act_349 rfl 3 rfl ?_
    refine z_bipush (pc := 350) (v := 6) F dX8_act_350 (by decide) ?_
    refine z_icmp_ge (pc := 352) (tgt := 391) F dX8_act_352 (by decide) (fun _ => ?_) (fun h => absurd h (by decide))
    refine z_aload_n (pc := 391) F dX8_act_391 rfl 0 rfl ?_
    refine z_callVW (pc := 392) (q0 := 0) (ci := 8) (rest := []) F (c_X8_pop l E r S (h + 1) ab f hg (by first | assumption | rfl | omega)) 0 ww_Model_104 (by decide +kernel) rfl ⟨Nat.le_of_ble_eq_true rfl, Nat.le_of_ble_eq_true rfl⟩ ⟨Nat.le_of_ble_eq_true rfl, Nat.le_of_ble_eq_true rfl⟩ rfl rfl rfl rfl (Nat.le_of_ble_eq_true rfl) dX8_act_392 (fun v_ w1_ hp => ?_)
    obtain ⟨rfl, rfl⟩ := hp
    show Z X (0) (0) (mw E r (mst S (nI (h + 1)) ab f hg)) [(0, .ref (r 0)), (1, .int (nI ro)), (2, .int (nI k)), (3, .int (nI 20))] 395 [.long (f (h + 1))]
    refine z_lstore (pc := 395) (lv' := [(0, .ref (r 0)), (1, .int (nI ro)), (2, .int (nI k)), (3, .int (nI 20)), (7, .long (f (h + 1)))]) F dX8_act_395 (by decide) [1, 2, 3, 4, 0] rfl ?_
    refine z_aload_n (pc := 397) F dX8_act_397 rfl 0 rfl ?_
    refine z_callVW (pc := 398) (q0 := 0) (ci := 8) (rest := []) F (c_X8_pop l E r S h ab f hg (by first | assumption | rfl | omega)) 0 ww_Model_104 (by decide +kernel) rfl ⟨Nat.le_of_ble_eq_true rfl, Nat.le_of_ble_eq_true rfl⟩ ⟨Nat.le_of_ble_eq_true rfl, Nat.le_of_ble_eq_true rfl⟩ rfl rfl rfl rfl (Nat.le_of_ble_eq_true rfl) dX8_act_398 (fun v_ w1_ hp => ?_)
    obtain ⟨rfl, rfl⟩ := hp
    show Z X (0) (0) (mw E r (mst S (nI h) ab f hg)) [(0, .ref (r 0)), (1, .int (nI ro)), (2, .int (nI k)), (3, .int (nI 20)), (7, .long (f (h + 1)))] 401 [.long (f h)]
    refine z_lstore (pc := 401) (lv' := [(0, .ref (r 0)), (1, .int (nI ro)), (2, .int (nI k)), (3, .int (nI 20)), (5, .long (f h)), (7, .long (f (h + 1)))]) F dX8_act_401 (by decide) [1, 2, 3, 4, 0, 5] rfl ?_
    refine z_aload_n (pc := 403) F dX8_act_403 rfl 0 rfl ?_
    refine z_aload_n (pc := 404) F dX8_act_404 rfl 0 rfl ?_
    refine z_iload_n (pc := 405) F dX8_act_405 rfl 3 rfl ?_
    refine z_lload (pc := 406) F dX8_act_406 4 rfl ?_
    refine z_lload (pc := 408) F dX8_act_408 5 rfl ?_
    refine z_callVW (pc := 410) (q0 := 0) (ci := 8) (rest := [.ref (r 0)]) F (c_X8_reckon l E r S (nI h) ab f hg 20 (f h) (f (h + 1)) (by first | assumption | rfl | omega) (by first | assumption | rfl | omega)) 3 ww_Model_122 (by decide +kernel) rfl ⟨Nat.le_of_ble_eq_true rfl, Nat.le_of_ble_eq_true rfl⟩ ⟨Nat.le_of_ble_eq_true rfl, Nat.le_of_ble_eq_true rfl⟩ rfl rfl rfl rfl (Nat.le_of_ble_eq_true rfl) dX8_act_410 (fun v_ w1_ hp => ?_)
    obtain ⟨rfl, rfl⟩ := hp
    show Z X (0) (0) (mw E r (mst S (nI h) (rkA 20 (f (h + 1)) ab) f hg)) [(0, .ref (r 0)), (1, .int (nI ro)), (2, .int (nI k)), (3, .int (nI 20)), (5, .long (f h)), (7, .long (f (h + 1)))] 413 [.long (rk 20 (f h) (f (h + 1))), .ref (r 0)]
    refine z_callVW (pc := 413) (q0 := 0) (ci := 8) (rest := []) F (c_X8_push l E r S h (rkA 20 (f (h + 1)) ab) f hg (rk 20 (f h) (f (h + 1))) (by first | assumption | rfl | omega)) 1 ww_Model_112 (by decide +kernel) rfl ⟨Nat.le_of_ble_eq_true rfl, Nat.le_of_ble_eq_true rfl⟩ ⟨Nat.le_of_ble_eq_true rfl, Nat.le_of_ble_eq_true rfl⟩ rfl rfl rfl rfl (Nat.le_of_ble_eq_true rfl) dX8_act_413 (fun v_ w1_ hp => ?_)
    obtain ⟨rfl, rfl⟩ := hp
    show Z X (0) (0) (mw E r (mst S (nI (h + 1)) (rkA 20 (f (h + 1)) ab) (vp_updL f h (rk 20 (f h) (f (h + 1)))) hg)) [(0, .ref (r 0)), (1, .int (nI ro)), (2, .int (nI k)), (3, .int (nI 20)), (5, .long (f h)), (7, .long (f (h + 1)))] 416 []
    exact z_vret (pc := 416) F hR dX8_act_416 (Nat.le_of_ble_eq_true rfl) (Nat.le_of_ble_eq_true rfl) ⟨rfl, rfl⟩

/-! the reference's stack machine -/
def mst (S : zS) (hh ab : Int32) (f : Nat → Int64) (hg : Nat → Int32) : zS := (fun i => if i = 5 then hh else if i = 6 then ab else S.1 i, S.2.1, fun i => if i = 16 then hg else S.2.2.1 i, fun i => if i = 15 then f else S.2.2.2 i)
def rk (op : Nat) (x y : Int64) : Int64 := if op = 10 then x + y else if op = 11 then x - y else if op = 12 then x * y else if op = 13 then (if y = 0 then 0 else if y = -1 then -x else x / y) else if op = 14 then (if y = 0 then 0 else if y = -1 then 0 else x - x / y * y) else if op = 15 then (if x = y then 1 else 0) else if op = 16 then (if x = y then 0 else 1) else if op = 17 then (if x < y then 1 else 0) else if op = 18 then (if y < x then 1 else 0) else if op = 19 then x * y else (if 0 < x + y then 1 else 0)
def rkA (op : Nat) (y : Int64) (ab : Int32) : Int32 := if (op = 13 ∨ op = 14) ∧ y = 0 then 1 else ab
theorem lN_i32 {j : Nat} : (lN j).toInt32 = nI j := lN_i j
theorem ix3 {o p : Nat} (e : 3 ≤ p) : 3 * nI o + nI p - 3 = nI (3 * o + p - 3) := by
  rw [show (3 : Int32) = nI 3 from rfl, pk_mul, nI_add, pk_sub (by omega)]
theorem ix8 {o p : Nat} : 8 * nI o + nI p = nI (8 * o + p) := by
  rw [show (8 : Int32) = nI 8 from rfl, pk_mul, nI_add]
theorem nI_nm {j : Nat} (h : j < 2 ^ 31) : ¬ nI j = -1 := by
  intro q
  have a := nI_toInt h
  rw [q] at a
  have : (-1 : Int32).toInt = -1 := by decide
  omega
set_option maxHeartbeats 4000000 in
set_option maxRecDepth 100000 in
theorem c_X8_looked_n (l : Launch) (E : zE) (r : Nat → Nat) (S : zS) (h : Nat) (ab : Int32) (f : Nat → Int64) (hg : Nat → Int32) (hh : h < 240) (hv : f h = -1) : Ct l yX8_looked cX8_looked 2 (some .int) ({ frames := 1, cells := 0, slots := 0, locals := 20 } : Room) E (mw E r (mst S (nI (h + 1)) ab f hg)) [.ref (r 0)] (fun v_ w_ => v_ = some (.int (-1)) ∧ w_ = mw E r (mst S (nI h) 1 f hg)) := by
  refine Ct.of (by decide) (Nat.le_of_ble_eq_true rfl) (lv := [(0, .ref (r 0))]) rfl ?_
  intro X F hR
  have F : zF X l ({ frames := 1, cells := 0, slots := 0, locals := 20 } : Room) E cX8_looked 2 "LiveQueriesModel" := F
  refine z_aload_n (pc := 0) F dX8_looked_0 rfl 0 rfl ?_
  refine z_callVW (pc := 1) (q0 := 0) (ci := 8) (rest := []) F (c_X8_pop l E r (mst S (nI (h + 1)) ab f hg) _ (by first | assumption | rfl | omega) (by first | assumption | rfl | omega)) 0 ww_Model_104 (by decide +kernel) rfl ⟨Nat.le_of_ble_eq_true rfl, Nat.le_of_ble_eq_true rfl⟩ ⟨Nat.le_of_ble_eq_true rfl, Nat.le_of_ble_eq_true rfl⟩ rfl rfl rfl rfl (by decide) dX8_looked_1 (fun v_ w1_ hp => ?_)
  obtain ⟨rfl, rfl⟩ := hp
  show Z X (0) (0) (mw E r (mst S (nI h) ab f hg)) [(0, .ref (r 0))] 4 [.long (zb (mst S (nI (h + 1)) ab f hg) 15 h)]
  rw [show (zb (mst S (nI (h + 1)) ab f hg) 15 h) = (-1 : Int64) from hv]
  refine z_l2i (pc := 4) F dX8_looked_4 ?_
  rw [show ((-1 : Int64).toInt32) = (-1) from (by decide)]
  refine z_istore_n (pc := 5) (lv' := [(0, .ref (r 0)), (1, .int (-1))]) F dX8_looked_5 rfl (by decide) [1, 0] rfl ?_
  refine z_iload_n (pc := 6) F dX8_looked_6 rfl 1 rfl ?_
  refine z_iconst (pc := 7) (v := (-1)) F dX8_looked_7 (by decide) ?_
  refine z_icmp_ne (pc := 8) (tgt := 19) F dX8_looked_8 (by decide) (fun h => absurd h (by decide)) (fun _ => ?_)
  refine z_aload_n (pc := 11) F dX8_looked_11 rfl 0 rfl ?_
  refine z_iconst (pc := 12) (v := 1) F dX8_looked_12 (by decide) ?_
  refine z_put (pc := 13) (ws' := mw E r (mst S (nI h) 1 f hg)) F iX8 tyX8 tyX8_ok nmX8 0 rfl rfl 21 (by decide) tw_879 rfl rfl rfl (Nat.le_of_ble_eq_true rfl) dX8_looked_13 rfl ?_
  refine z_goto (pc := 16) (tgt := 26) F dX8_looked_16 (by decide) ?_
  refine z_iload_n (pc := 26) F dX8_looked_26 rfl 1 rfl ?_
  exact z_iret (pc := 27) F hR dX8_looked_27 (Nat.le_of_ble_eq_true rfl) (Nat.le_of_ble_eq_true rfl) ⟨rfl, rfl⟩
set_option maxHeartbeats 4000000 in
set_option maxRecDepth 100000 in
theorem c_X8_looked_s (l : Launch) (E : zE) (r : Nat → Nat) (S : zS) (h : Nat) (ab : Int32) (f : Nat → Int64) (hg : Nat → Int32) (j : Nat) (hh : h < 240) (hv : f h = lN j) (hj : j < 60) : Ct l yX8_looked cX8_looked 2 (some .int) ({ frames := 1, cells := 0, slots := 0, locals := 20 } : Room) E (mw E r (mst S (nI (h + 1)) ab f hg)) [.ref (r 0)] (fun v_ w_ => v_ = some (.int (nI j)) ∧ w_ = mw E r (mst S (nI h) ab f (upd hg j 1))) := by
  refine Ct.of (by decide) (Nat.le_of_ble_eq_true rfl) (lv := [(0, .ref (r 0))]) rfl ?_
  intro X F hR
  have F : zF X l ({ frames := 1, cells := 0, slots := 0, locals := 20 } : Room) E cX8_looked 2 "LiveQueriesModel" := F
  refine z_aload_n (pc := 0) F dX8_looked_0 rfl 0 rfl ?_
  refine z_callVW (pc := 1) (q0 := 0) (ci := 8) (rest := []) F (c_X8_pop l E r (mst S (nI (h + 1)) ab f hg) _ (by first | assumption | rfl | omega) (by first | assumption | rfl | omega)) 0 ww_Model_104 (by decide +kernel) rfl ⟨Nat.le_of_ble_eq_true rfl, Nat.le_of_ble_eq_true rfl⟩ ⟨Nat.le_of_ble_eq_true rfl, Nat.le_of_ble_eq_true rfl⟩ rfl rfl rfl rfl (by decide) dX8_looked_1 (fun v_ w1_ hp => ?_)
  obtain ⟨rfl, rfl⟩ := hp
  show Z X (0) (0) (mw E r (mst S (nI h) ab f hg)) [(0, .ref (r 0))] 4 [.long (zb (mst S (nI (h + 1)) ab f hg) 15 h)]
  rw [show (zb (mst S (nI (h + 1)) ab f hg) 15 h) = lN j from hv]
  refine z_l2i (pc := 4) F dX8_looked_4 ?_
  rw [show ((lN j).toInt32) = nI j from lN_i32]
  refine z_istore_n (pc := 5) (lv' := [(0, .ref (r 0)), (1, .int (nI j))]) F dX8_looked_5 rfl (by decide) [1, 0] rfl ?_
  refine z_iload_n (pc := 6) F dX8_looked_6 rfl 1 rfl ?_
  refine z_iconst (pc := 7) (v := (-1)) F dX8_looked_7 (by decide) ?_
  refine z_icmp_ne (pc := 8) (tgt := 19) F dX8_looked_8 (by decide) (fun c8 => ?_) (fun c8 => absurd c8 (nI_nm (by omega)))
  refine z_aload_n (pc := 19) F dX8_looked_19 rfl 0 rfl ?_
  refine z_get (pc := 20) (v := .ref (r 16)) F iX8 0 rfl rfl 22 (by decide) tw_880 rfl dX8_looked_20 ?_
  refine z_iload_n (pc := 23) F dX8_looked_23 rfl 1 rfl ?_
  refine z_iconst (pc := 24) (v := 1) F dX8_looked_24 (by decide) ?_
  refine z_zastN (pc := 25) (ws' := mw E r (mst S (nI h) ab f (upd hg j 1))) F 16 2 rfl rfl j rfl (by omega) (by decide) rfl dX8_looked_25 rfl ?_
  refine z_iload_n (pc := 26) F dX8_looked_26 rfl 1 rfl ?_
  exact z_iret (pc := 27) F hR dX8_looked_27 (Nat.le_of_ble_eq_true rfl) (Nat.le_of_ble_eq_true rfl) ⟨rfl, rfl⟩
set_option maxHeartbeats 4000000 in
set_option maxRecDepth 100000 in
theorem c_X8_reckon (l : Launch) (E : zE) (r : Nat → Nat) (S : zS) (hh : Int32) (ab : Int32) (f : Nat → Int64) (hg : Nat → Int32) (op : Nat) (x : Int64) (y : Int64) (ho : 10 ≤ op) (hp : op ≤ 20) : Ct l yX8_reckon cX8_reckon 6 (some .long) ({ frames := 0, cells := 0, slots := 0, locals := 0 } : Room) E (mw E r (mst S hh ab f hg)) [.ref (r 0), .int (nI op), .long x, .long y] (fun v_ w_ => v_ = some (.long (rk op x y)) ∧ w_ = mw E r (mst S hh (rkA op y ab) f hg)) := by
  refine Ct.of (by decide) (Nat.le_of_ble_eq_true rfl) (lv := [(0, .ref (r 0)), (1, .int (nI op)), (2, .long x), (4, .long y)]) rfl ?_
  intro X F hR
  have F : zF X l ({ frames := 0, cells := 0, slots := 0, locals := 0 } : Room) E cX8_reckon 6 "LiveQueriesModel" := F
  refine z_iload_n (pc := 0) F dX8_reckon_0 rfl 1 rfl ?_
  rcases (show op = 10 ∨ op = 11 ∨ op = 12 ∨ op = 13 ∨ op = 14 ∨ op = 15 ∨ op = 16 ∨ op = 17 ∨ op = 18 ∨ op = 19 ∨ op = 20 by omega) with rfl | rfl | rfl | rfl | rfl | rfl | rfl | rfl | rfl | rfl | rfl
  · refine z_tableIn (off := 55) (tgt := 56) (pc := 1) F dX8_reckon_1 (by decide) (by decide) (by decide) (by decide) ?_
    refine z_lload_n (pc := 56) F dX8_reckon_56 rfl 2 rfl ?_
    refine z_lload (pc := 57) F dX8_reckon_57 3 rfl ?_
    refine z_ladd (pc := 59) F dX8_reckon_59 ?_
    exact z_lret (pc := 60) F hR dX8_reckon_60 (Nat.le_of_ble_eq_true rfl) (Nat.le_of_ble_eq_true rfl) ⟨by simp_all [rk], by simp_all [rkA]⟩
  · refine z_tableIn (off := 60) (tgt := 61) (pc := 1) F dX8_reckon_1 (by decide) (by decide) (by decide) (by decide) ?_
    refine z_lload_n (pc := 61) F dX8_reckon_61 rfl 2 rfl ?_
    refine z_lload (pc := 62) F dX8_reckon_62 3 rfl ?_
    refine z_lsub (pc := 64) F dX8_reckon_64 ?_
    exact z_lret (pc := 65) F hR dX8_reckon_65 (Nat.le_of_ble_eq_true rfl) (Nat.le_of_ble_eq_true rfl) ⟨by simp_all [rk], by simp_all [rkA]⟩
  · refine z_tableIn (off := 65) (tgt := 66) (pc := 1) F dX8_reckon_1 (by decide) (by decide) (by decide) (by decide) ?_
    refine z_lload_n (pc := 66) F dX8_reckon_66 rfl 2 rfl ?_
    refine z_lload (pc := 67) F dX8_reckon_67 3 rfl ?_
    refine z_lmul (pc := 69) F dX8_reckon_69 ?_
    exact z_lret (pc := 70) F hR dX8_reckon_70 (Nat.le_of_ble_eq_true rfl) (Nat.le_of_ble_eq_true rfl) ⟨by simp_all [rk], by simp_all [rkA]⟩
  · refine z_tableIn (off := 70) (tgt := 71) (pc := 1) F dX8_reckon_1 (by decide) (by decide) (by decide) (by decide) ?_
    refine z_lload (pc := 71) F dX8_reckon_71 3 rfl ?_
    refine z_lconst (pc := 73) (v := 0) F dX8_reckon_73 (by decide) ?_
    refine z_l_ne (pc := 74) (tgt := 83) F dX8_reckon_74 dX8_reckon_75 (by decide) (fun c74 => ?_) (fun c74 => ?_)
    · refine z_lload (pc := 83) F dX8_reckon_83 3 rfl ?_
      refine z_lconst (pc := 85) (v := 0) F dX8_reckon_85 (by decide) ?_
      refine z_l_ne (pc := 86) (tgt := 94) F dX8_reckon_86 dX8_reckon_87 (by decide) (fun c86 => ?_) (fun c86 => ?_)
      · refine z_lload (pc := 94) F dX8_reckon_94 3 rfl ?_
        refine z_ldc2 (pc := 96) F dX8_reckon_96 tw_1012 ?_
        refine z_l_ne (pc := 99) (tgt := 118) F dX8_reckon_99 dX8_reckon_100 (by decide) (fun c99 => ?_) (fun c99 => ?_)
        · refine z_iload_n (pc := 118) F dX8_reckon_118 rfl 1 rfl ?_
          refine z_bipush (pc := 119) (v := 13) F dX8_reckon_119 (by decide) ?_
          refine z_icmp_ne (pc := 121) (tgt := 131) F dX8_reckon_121 (by decide) (fun h => absurd h (by decide)) (fun _ => ?_)
          refine z_lload_n (pc := 124) F dX8_reckon_124 rfl 2 rfl ?_
          refine z_lload (pc := 125) F dX8_reckon_125 3 rfl ?_
          refine z_ldiv (pc := 127) F dX8_reckon_127 c86 ?_
          refine z_goto (pc := 128) (tgt := 135) F dX8_reckon_128 (by decide) ?_
          exact z_lret (pc := 135) F hR dX8_reckon_135 (Nat.le_of_ble_eq_true rfl) (Nat.le_of_ble_eq_true rfl) ⟨by simp_all [rk], by simp_all [rkA]⟩
        · refine z_iload_n (pc := 103) F dX8_reckon_103 rfl 1 rfl ?_
          refine z_bipush (pc := 104) (v := 13) F dX8_reckon_104 (by decide) ?_
          refine z_icmp_ne (pc := 106) (tgt := 114) F dX8_reckon_106 (by decide) (fun h => absurd h (by decide)) (fun _ => ?_)
          refine z_lload_n (pc := 109) F dX8_reckon_109 rfl 2 rfl ?_
          refine z_lneg (pc := 110) F dX8_reckon_110 ?_
          refine z_goto (pc := 111) (tgt := 135) F dX8_reckon_111 (by decide) ?_
          exact z_lret (pc := 135) F hR dX8_reckon_135 (Nat.le_of_ble_eq_true rfl) (Nat.le_of_ble_eq_true rfl) ⟨by simp_all [rk], by simp_all [rkA]⟩
      · refine z_lconst (pc := 90) (v := 0) F dX8_reckon_90 (by decide) ?_
        refine z_goto (pc := 91) (tgt := 135) F dX8_reckon_91 (by decide) ?_
        exact z_lret (pc := 135) F hR dX8_reckon_135 (Nat.le_of_ble_eq_true rfl) (Nat.le_of_ble_eq_true rfl) ⟨by simp_all [rk], by simp_all [rkA]⟩
    · refine z_aload_n (pc := 78) F dX8_reckon_78 rfl 0 rfl ?_
      refine z_iconst (pc := 79) (v := 1) F dX8_reckon_79 (by decide) ?_
      refine z_put (pc := 80) (ws' := mw E r (mst S hh 1 f hg)) F iX8 tyX8 tyX8_ok nmX8 0 rfl rfl 21 (by decide) tw_879 rfl rfl rfl (Nat.le_of_ble_eq_true rfl) dX8_reckon_80 rfl ?_
      refine z_lload (pc := 83) F dX8_reckon_83 3 rfl ?_
      refine z_lconst (pc := 85) (v := 0) F dX8_reckon_85 (by decide) ?_
      refine z_l_ne (pc := 86) (tgt := 94) F dX8_reckon_86 dX8_reckon_87 (by decide) (fun c86 => ?_) (fun c86 => ?_)
      · refine z_lload (pc := 94) F dX8_reckon_94 3 rfl ?_
        refine z_ldc2 (pc := 96) F dX8_reckon_96 tw_1012 ?_
        refine z_l_ne (pc := 99) (tgt := 118) F dX8_reckon_99 dX8_reckon_100 (by decide) (fun c99 => ?_) (fun c99 => ?_)
        · refine z_iload_n (pc := 118) F dX8_reckon_118 rfl 1 rfl ?_
          refine z_bipush (pc := 119) (v := 13) F dX8_reckon_119 (by decide) ?_
          refine z_icmp_ne (pc := 121) (tgt := 131) F dX8_reckon_121 (by decide) (fun h => absurd h (by decide)) (fun _ => ?_)
          refine z_lload_n (pc := 124) F dX8_reckon_124 rfl 2 rfl ?_
          refine z_lload (pc := 125) F dX8_reckon_125 3 rfl ?_
          refine z_ldiv (pc := 127) F dX8_reckon_127 c86 ?_
          refine z_goto (pc := 128) (tgt := 135) F dX8_reckon_128 (by decide) ?_
          exact z_lret (pc := 135) F hR dX8_reckon_135 (Nat.le_of_ble_eq_true rfl) (Nat.le_of_ble_eq_true rfl) ⟨by simp_all [rk], by simp_all [rkA]⟩
        · refine z_iload_n (pc := 103) F dX8_reckon_103 rfl 1 rfl ?_
          refine z_bipush (pc := 104) (v := 13) F dX8_reckon_104 (by decide) ?_
          refine z_icmp_ne (pc := 106) (tgt := 114) F dX8_reckon_106 (by decide) (fun h => absurd h (by decide)) (fun _ => ?_)
          refine z_lload_n (pc := 109) F dX8_reckon_109 rfl 2 rfl ?_
          refine z_lneg (pc := 110) F dX8_reckon_110 ?_
          refine z_goto (pc := 111) (tgt := 135) F dX8_reckon_111 (by decide) ?_
          exact z_lret (pc := 135) F hR dX8_reckon_135 (Nat.le_of_ble_eq_true rfl) (Nat.le_of_ble_eq_true rfl) ⟨by simp_all [rk], by simp_all [rkA]⟩
      · refine z_lconst (pc := 90) (v := 0) F dX8_reckon_90 (by decide) ?_
        refine z_goto (pc := 91) (tgt := 135) F dX8_reckon_91 (by decide) ?_
        exact z_lret (pc := 135) F hR dX8_reckon_135 (Nat.le_of_ble_eq_true rfl) (Nat.le_of_ble_eq_true rfl) ⟨by simp_all [rk], by simp_all [rkA]⟩
  · refine z_tableIn (off := 70) (tgt := 71) (pc := 1) F dX8_reckon_1 (by decide) (by decide) (by decide) (by decide) ?_
    refine z_lload (pc := 71) F dX8_reckon_71 3 rfl ?_
    refine z_lconst (pc := 73) (v := 0) F dX8_reckon_73 (by decide) ?_
    refine z_l_ne (pc := 74) (tgt := 83) F dX8_reckon_74 dX8_reckon_75 (by decide) (fun c74 => ?_) (fun c74 => ?_)
    · refine z_lload (pc := 83) F dX8_reckon_83 3 rfl ?_
      refine z_lconst (pc := 85) (v := 0) F dX8_reckon_85 (by decide) ?_
      refine z_l_ne (pc := 86) (tgt := 94) F dX8_reckon_86 dX8_reckon_87 (by decide) (fun c86 => ?_) (fun c86 => ?_)
      · refine z_lload (pc := 94) F dX8_reckon_94 3 rfl ?_
        refine z_ldc2 (pc := 96) F dX8_reckon_96 tw_1012 ?_
        refine z_l_ne (pc := 99) (tgt := 118) F dX8_reckon_99 dX8_reckon_100 (by decide) (fun c99 => ?_) (fun c99 => ?_)
        · refine z_iload_n (pc := 118) F dX8_reckon_118 rfl 1 rfl ?_
          refine z_bipush (pc := 119) (v := 13) F dX8_reckon_119 (by decide) ?_
          refine z_icmp_ne (pc := 121) (tgt := 131) F dX8_reckon_121 (by decide) (fun _ => ?_) (fun h => absurd h (by decide))
          refine z_lload_n (pc := 131) F dX8_reckon_131 rfl 2 rfl ?_
          refine z_lload (pc := 132) F dX8_reckon_132 3 rfl ?_
          refine z_lrem (pc := 134) F dX8_reckon_134 c86 ?_
          exact z_lret (pc := 135) F hR dX8_reckon_135 (Nat.le_of_ble_eq_true rfl) (Nat.le_of_ble_eq_true rfl) ⟨by simp_all [rk], by simp_all [rkA]⟩
        · refine z_iload_n (pc := 103) F dX8_reckon_103 rfl 1 rfl ?_
          refine z_bipush (pc := 104) (v := 13) F dX8_reckon_104 (by decide) ?_
          refine z_icmp_ne (pc := 106) (tgt := 114) F dX8_reckon_106 (by decide) (fun _ => ?_) (fun h => absurd h (by decide))
          refine z_lconst (pc := 114) (v := 0) F dX8_reckon_114 (by decide) ?_
          refine z_goto (pc := 115) (tgt := 135) F dX8_reckon_115 (by decide) ?_
          exact z_lret (pc := 135) F hR dX8_reckon_135 (Nat.le_of_ble_eq_true rfl) (Nat.le_of_ble_eq_true rfl) ⟨by simp_all [rk], by simp_all [rkA]⟩
      · refine z_lconst (pc := 90) (v := 0) F dX8_reckon_90 (by decide) ?_
        refine z_goto (pc := 91) (tgt := 135) F dX8_reckon_91 (by decide) ?_
        exact z_lret (pc := 135) F hR dX8_reckon_135 (Nat.le_of_ble_eq_true rfl) (Nat.le_of_ble_eq_true rfl) ⟨by simp_all [rk], by simp_all [rkA]⟩
    · refine z_aload_n (pc := 78) F dX8_reckon_78 rfl 0 rfl ?_
      refine z_iconst (pc := 79) (v := 1) F dX8_reckon_79 (by decide) ?_
      refine z_put (pc := 80) (ws' := mw E r (mst S hh 1 f hg)) F iX8 tyX8 tyX8_ok nmX8 0 rfl rfl 21 (by decide) tw_879 rfl rfl rfl (Nat.le_of_ble_eq_true rfl) dX8_reckon_80 rfl ?_
      refine z_lload (pc := 83) F dX8_reckon_83 3 rfl ?_
      refine z_lconst (pc := 85) (v := 0) F dX8_reckon_85 (by decide) ?_
      refine z_l_ne (pc := 86) (tgt := 94) F dX8_reckon_86 dX8_reckon_87 (by decide) (fun c86 => ?_) (fun c86 => ?_)
      · refine z_lload (pc := 94) F dX8_reckon_94 3 rfl ?_
        refine z_ldc2 (pc := 96) F dX8_reckon_96 tw_1012 ?_
        refine z_l_ne (pc := 99) (tgt := 118) F dX8_reckon_99 dX8_reckon_100 (by decide) (fun c99 => ?_) (fun c99 => ?_)
        · refine z_iload_n (pc := 118) F dX8_reckon_118 rfl 1 rfl ?_
          refine z_bipush (pc := 119) (v := 13) F dX8_reckon_119 (by decide) ?_
          refine z_icmp_ne (pc := 121) (tgt := 131) F dX8_reckon_121 (by decide) (fun _ => ?_) (fun h => absurd h (by decide))
          refine z_lload_n (pc := 131) F dX8_reckon_131 rfl 2 rfl ?_
          refine z_lload (pc := 132) F dX8_reckon_132 3 rfl ?_
          refine z_lrem (pc := 134) F dX8_reckon_134 c86 ?_
          exact z_lret (pc := 135) F hR dX8_reckon_135 (Nat.le_of_ble_eq_true rfl) (Nat.le_of_ble_eq_true rfl) ⟨by simp_all [rk], by simp_all [rkA]⟩
        · refine z_iload_n (pc := 103) F dX8_reckon_103 rfl 1 rfl ?_
          refine z_bipush (pc := 104) (v := 13) F dX8_reckon_104 (by decide) ?_
          refine z_icmp_ne (pc := 106) (tgt := 114) F dX8_reckon_106 (by decide) (fun _ => ?_) (fun h => absurd h (by decide))
          refine z_lconst (pc := 114) (v := 0) F dX8_reckon_114 (by decide) ?_
          refine z_goto (pc := 115) (tgt := 135) F dX8_reckon_115 (by decide) ?_
          exact z_lret (pc := 135) F hR dX8_reckon_135 (Nat.le_of_ble_eq_true rfl) (Nat.le_of_ble_eq_true rfl) ⟨by simp_all [rk], by simp_all [rkA]⟩
      · refine z_lconst (pc := 90) (v := 0) F dX8_reckon_90 (by decide) ?_
        refine z_goto (pc := 91) (tgt := 135) F dX8_reckon_91 (by decide) ?_
        exact z_lret (pc := 135) F hR dX8_reckon_135 (Nat.le_of_ble_eq_true rfl) (Nat.le_of_ble_eq_true rfl) ⟨by simp_all [rk], by simp_all [rkA]⟩
  · refine z_tableIn (off := 135) (tgt := 136) (pc := 1) F dX8_reckon_1 (by decide) (by decide) (by decide) (by decide) ?_
    refine z_lload_n (pc := 136) F dX8_reckon_136 rfl 2 rfl ?_
    refine z_lload (pc := 137) F dX8_reckon_137 3 rfl ?_
    refine z_l_ne (pc := 139) (tgt := 147) F dX8_reckon_139 dX8_reckon_140 (by decide) (fun c139 => ?_) (fun c139 => ?_)
    · refine z_lconst (pc := 147) (v := 0) F dX8_reckon_147 (by decide) ?_
      exact z_lret (pc := 148) F hR dX8_reckon_148 (Nat.le_of_ble_eq_true rfl) (Nat.le_of_ble_eq_true rfl) ⟨by simp_all [rk], by simp_all [rkA]⟩
    · refine z_lconst (pc := 143) (v := 1) F dX8_reckon_143 (by decide) ?_
      refine z_goto (pc := 144) (tgt := 148) F dX8_reckon_144 (by decide) ?_
      exact z_lret (pc := 148) F hR dX8_reckon_148 (Nat.le_of_ble_eq_true rfl) (Nat.le_of_ble_eq_true rfl) ⟨by simp_all [rk], by simp_all [rkA]⟩
  · refine z_tableIn (off := 148) (tgt := 149) (pc := 1) F dX8_reckon_1 (by decide) (by decide) (by decide) (by decide) ?_
    refine z_lload_n (pc := 149) F dX8_reckon_149 rfl 2 rfl ?_
    refine z_lload (pc := 150) F dX8_reckon_150 3 rfl ?_
    refine z_l_eq (pc := 152) (tgt := 160) F dX8_reckon_152 dX8_reckon_153 (by decide) (fun c152 => ?_) (fun c152 => ?_)
    · refine z_lconst (pc := 160) (v := 0) F dX8_reckon_160 (by decide) ?_
      exact z_lret (pc := 161) F hR dX8_reckon_161 (Nat.le_of_ble_eq_true rfl) (Nat.le_of_ble_eq_true rfl) ⟨by simp_all [rk], by simp_all [rkA]⟩
    · refine z_lconst (pc := 156) (v := 1) F dX8_reckon_156 (by decide) ?_
      refine z_goto (pc := 157) (tgt := 161) F dX8_reckon_157 (by decide) ?_
      exact z_lret (pc := 161) F hR dX8_reckon_161 (Nat.le_of_ble_eq_true rfl) (Nat.le_of_ble_eq_true rfl) ⟨by simp_all [rk], by simp_all [rkA]⟩
  · refine z_tableIn (off := 161) (tgt := 162) (pc := 1) F dX8_reckon_1 (by decide) (by decide) (by decide) (by decide) ?_
    refine z_lload_n (pc := 162) F dX8_reckon_162 rfl 2 rfl ?_
    refine z_lload (pc := 163) F dX8_reckon_163 3 rfl ?_
    refine z_l_ge (pc := 165) (tgt := 173) F dX8_reckon_165 dX8_reckon_166 (by decide) (fun c165 => ?_) (fun c165 => ?_)
    · refine z_lconst (pc := 173) (v := 0) F dX8_reckon_173 (by decide) ?_
      exact z_lret (pc := 174) F hR dX8_reckon_174 (Nat.le_of_ble_eq_true rfl) (Nat.le_of_ble_eq_true rfl) ⟨by simp_all [rk], by simp_all [rkA]⟩
    · refine z_lconst (pc := 169) (v := 1) F dX8_reckon_169 (by decide) ?_
      refine z_goto (pc := 170) (tgt := 174) F dX8_reckon_170 (by decide) ?_
      exact z_lret (pc := 174) F hR dX8_reckon_174 (Nat.le_of_ble_eq_true rfl) (Nat.le_of_ble_eq_true rfl) ⟨by simp_all [rk], by simp_all [rkA]⟩
  · refine z_tableIn (off := 174) (tgt := 175) (pc := 1) F dX8_reckon_1 (by decide) (by decide) (by decide) (by decide) ?_
    refine z_lload_n (pc := 175) F dX8_reckon_175 rfl 2 rfl ?_
    refine z_lload (pc := 176) F dX8_reckon_176 3 rfl ?_
    refine z_l_le (pc := 178) (tgt := 186) F dX8_reckon_178 dX8_reckon_179 (by decide) (fun c178 => ?_) (fun c178 => ?_)
    · refine z_lconst (pc := 186) (v := 0) F dX8_reckon_186 (by decide) ?_
      exact z_lret (pc := 187) F hR dX8_reckon_187 (Nat.le_of_ble_eq_true rfl) (Nat.le_of_ble_eq_true rfl) ⟨by simp_all [rk], by simp_all [rkA]⟩
    · refine z_lconst (pc := 182) (v := 1) F dX8_reckon_182 (by decide) ?_
      refine z_goto (pc := 183) (tgt := 187) F dX8_reckon_183 (by decide) ?_
      exact z_lret (pc := 187) F hR dX8_reckon_187 (Nat.le_of_ble_eq_true rfl) (Nat.le_of_ble_eq_true rfl) ⟨by simp_all [rk], by simp_all [rkA]⟩
  · refine z_tableIn (off := 187) (tgt := 188) (pc := 1) F dX8_reckon_1 (by decide) (by decide) (by decide) (by decide) ?_
    refine z_lload_n (pc := 188) F dX8_reckon_188 rfl 2 rfl ?_
    refine z_lload (pc := 189) F dX8_reckon_189 3 rfl ?_
    refine z_lmul (pc := 191) F dX8_reckon_191 ?_
    exact z_lret (pc := 192) F hR dX8_reckon_192 (Nat.le_of_ble_eq_true rfl) (Nat.le_of_ble_eq_true rfl) ⟨by simp_all [rk], by simp_all [rkA]⟩
  · refine z_tableOut (tgt := 193) (pc := 1) F dX8_reckon_1 (by decide) (by decide) ?_
    refine z_lload_n (pc := 193) F dX8_reckon_193 rfl 2 rfl ?_
    refine z_lload (pc := 194) F dX8_reckon_194 3 rfl ?_
    refine z_ladd (pc := 196) F dX8_reckon_196 ?_
    refine z_lconst (pc := 197) (v := 0) F dX8_reckon_197 (by decide) ?_
    refine z_l_le (pc := 198) (tgt := 206) F dX8_reckon_198 dX8_reckon_199 (by decide) (fun c198 => ?_) (fun c198 => ?_)
    · refine z_lconst (pc := 206) (v := 0) F dX8_reckon_206 (by decide) ?_
      exact z_lret (pc := 207) F hR dX8_reckon_207 (Nat.le_of_ble_eq_true rfl) (Nat.le_of_ble_eq_true rfl) ⟨by simp_all [rk], by simp_all [rkA]⟩
    · refine z_lconst (pc := 202) (v := 1) F dX8_reckon_202 (by decide) ?_
      refine z_goto (pc := 203) (tgt := 207) F dX8_reckon_203 (by decide) ?_
      exact z_lret (pc := 207) F hR dX8_reckon_207 (Nat.le_of_ble_eq_true rfl) (Nat.le_of_ble_eq_true rfl) ⟨by simp_all [rk], by simp_all [rkA]⟩

set_option maxHeartbeats 4000000 in
set_option maxRecDepth 100000 in
theorem c_X6_holds (l : Launch) (E : zE) (c : Nat) (x : Int64) (y : Int64) (hc : c = 35 ∨ c = 38 ∨ c = 60 ∨ c = 61 ∨ c = 62 ∨ c = 124 ∨ c = 33) : Ct l yX6_holds cX6_holds 5 (some .boolean) ({ frames := 0, cells := 0, slots := 0, locals := 0 } : Room) E ([]) [.int (nI c), .long x, .long y] (fun v_ w_ => v_ = some (.int (bI (hldB c x y))) ∧ w_ = []) := by
  refine Ct.of (by decide) (Nat.le_of_ble_eq_true rfl) (lv := [(0, .int (nI c)), (1, .long x), (3, .long y)]) rfl ?_
  intro X F hR
  have F : zF X l ({ frames := 0, cells := 0, slots := 0, locals := 0 } : Room) E cX6_holds 5 "LiveQueries$Worker" := F
  refine z_iload_n (pc := 0) F dX6_holds_0 rfl 0 rfl ?_
  rcases hc with rfl | rfl | rfl | rfl | rfl | rfl | rfl
  · refine z_lookup (off := 71) (tgt := 72) (pc := 1) F dX6_holds_1 (by decide) (by decide) (by decide) ?_
    refine z_lload_n (pc := 72) F dX6_holds_72 rfl 1 rfl ?_
    refine z_lload_n (pc := 73) F dX6_holds_73 rfl 2 rfl ?_
    refine z_l_eq (pc := 74) (tgt := 82) F dX6_holds_74 dX6_holds_75 (by decide) (fun c74 => ?_) (fun c74 => ?_)
    · refine z_iconst (pc := 82) (v := 0) F dX6_holds_82 (by decide) ?_
      exact z_zret (pc := 83) F hR rfl dX6_holds_83 (Nat.le_of_ble_eq_true rfl) (Nat.le_of_ble_eq_true rfl) ⟨by rw [show hldB _ x y = false from by simp_all [hldB, l_nle, l_nlt', l_ge]]; rfl, rfl⟩
    · refine z_iconst (pc := 78) (v := 1) F dX6_holds_78 (by decide) ?_
      refine z_goto (pc := 79) (tgt := 83) F dX6_holds_79 (by decide) ?_
      exact z_zret (pc := 83) F hR rfl dX6_holds_83 (Nat.le_of_ble_eq_true rfl) (Nat.le_of_ble_eq_true rfl) ⟨by rw [show hldB _ x y = true from by simp_all [hldB, l_nle, l_nlt', l_ge]]; rfl, rfl⟩
  · refine z_lookup (off := 107) (tgt := 108) (pc := 1) F dX6_holds_1 (by decide) (by decide) (by decide) ?_
    refine z_lload_n (pc := 108) F dX6_holds_108 rfl 1 rfl ?_
    refine z_lconst (pc := 109) (v := 0) F dX6_holds_109 (by decide) ?_
    refine z_l_eq (pc := 110) (tgt := 124) F dX6_holds_110 dX6_holds_111 (by decide) (fun c110 => ?_) (fun c110 => ?_)
    · refine z_iconst (pc := 124) (v := 0) F dX6_holds_124 (by decide) ?_
      exact z_zret (pc := 125) F hR rfl dX6_holds_125 (Nat.le_of_ble_eq_true rfl) (Nat.le_of_ble_eq_true rfl) ⟨by rw [show hldB _ x y = false from by simp_all [hldB, l_nle, l_nlt', l_ge]]; rfl, rfl⟩
    · refine z_lload_n (pc := 114) F dX6_holds_114 rfl 2 rfl ?_
      refine z_lconst (pc := 115) (v := 0) F dX6_holds_115 (by decide) ?_
      refine z_l_eq (pc := 116) (tgt := 124) F dX6_holds_116 dX6_holds_117 (by decide) (fun c116 => ?_) (fun c116 => ?_)
      · refine z_iconst (pc := 124) (v := 0) F dX6_holds_124 (by decide) ?_
        exact z_zret (pc := 125) F hR rfl dX6_holds_125 (Nat.le_of_ble_eq_true rfl) (Nat.le_of_ble_eq_true rfl) ⟨by rw [show hldB _ x y = false from by simp_all [hldB, l_nle, l_nlt', l_ge]]; rfl, rfl⟩
      · refine z_iconst (pc := 120) (v := 1) F dX6_holds_120 (by decide) ?_
        refine z_goto (pc := 121) (tgt := 125) F dX6_holds_121 (by decide) ?_
        exact z_zret (pc := 125) F hR rfl dX6_holds_125 (Nat.le_of_ble_eq_true rfl) (Nat.le_of_ble_eq_true rfl) ⟨by rw [show hldB _ x y = true from by simp_all [hldB, l_nle, l_nlt', l_ge]]; rfl, rfl⟩
  · refine z_lookup (off := 83) (tgt := 84) (pc := 1) F dX6_holds_1 (by decide) (by decide) (by decide) ?_
    refine z_lload_n (pc := 84) F dX6_holds_84 rfl 1 rfl ?_
    refine z_lload_n (pc := 85) F dX6_holds_85 rfl 2 rfl ?_
    refine z_l_ge (pc := 86) (tgt := 94) F dX6_holds_86 dX6_holds_87 (by decide) (fun c86 => ?_) (fun c86 => ?_)
    · refine z_iconst (pc := 94) (v := 0) F dX6_holds_94 (by decide) ?_
      exact z_zret (pc := 95) F hR rfl dX6_holds_95 (Nat.le_of_ble_eq_true rfl) (Nat.le_of_ble_eq_true rfl) ⟨by rw [show hldB _ x y = false from by simp_all [hldB, l_nle, l_nlt', l_ge]]; rfl, rfl⟩
    · refine z_iconst (pc := 90) (v := 1) F dX6_holds_90 (by decide) ?_
      refine z_goto (pc := 91) (tgt := 95) F dX6_holds_91 (by decide) ?_
      exact z_zret (pc := 95) F hR rfl dX6_holds_95 (Nat.le_of_ble_eq_true rfl) (Nat.le_of_ble_eq_true rfl) ⟨by rw [show hldB _ x y = true from by simp_all [hldB, l_nle, l_nlt', l_ge]]; rfl, rfl⟩
  · refine z_lookup (off := 59) (tgt := 60) (pc := 1) F dX6_holds_1 (by decide) (by decide) (by decide) ?_
    refine z_lload_n (pc := 60) F dX6_holds_60 rfl 1 rfl ?_
    refine z_lload_n (pc := 61) F dX6_holds_61 rfl 2 rfl ?_
    refine z_l_ne (pc := 62) (tgt := 70) F dX6_holds_62 dX6_holds_63 (by decide) (fun c62 => ?_) (fun c62 => ?_)
    · refine z_iconst (pc := 70) (v := 0) F dX6_holds_70 (by decide) ?_
      exact z_zret (pc := 71) F hR rfl dX6_holds_71 (Nat.le_of_ble_eq_true rfl) (Nat.le_of_ble_eq_true rfl) ⟨by rw [show hldB _ x y = false from by simp_all [hldB, l_nle, l_nlt', l_ge]]; rfl, rfl⟩
    · refine z_iconst (pc := 66) (v := 1) F dX6_holds_66 (by decide) ?_
      refine z_goto (pc := 67) (tgt := 71) F dX6_holds_67 (by decide) ?_
      exact z_zret (pc := 71) F hR rfl dX6_holds_71 (Nat.le_of_ble_eq_true rfl) (Nat.le_of_ble_eq_true rfl) ⟨by rw [show hldB _ x y = true from by simp_all [hldB, l_nle, l_nlt', l_ge]]; rfl, rfl⟩
  · refine z_lookup (off := 95) (tgt := 96) (pc := 1) F dX6_holds_1 (by decide) (by decide) (by decide) ?_
    refine z_lload_n (pc := 96) F dX6_holds_96 rfl 1 rfl ?_
    refine z_lload_n (pc := 97) F dX6_holds_97 rfl 2 rfl ?_
    refine z_l_le (pc := 98) (tgt := 106) F dX6_holds_98 dX6_holds_99 (by decide) (fun c98 => ?_) (fun c98 => ?_)
    · refine z_iconst (pc := 106) (v := 0) F dX6_holds_106 (by decide) ?_
      exact z_zret (pc := 107) F hR rfl dX6_holds_107 (Nat.le_of_ble_eq_true rfl) (Nat.le_of_ble_eq_true rfl) ⟨by rw [show hldB _ x y = false from by simp_all [hldB, l_nle, l_nlt', l_ge]]; rfl, rfl⟩
    · refine z_iconst (pc := 102) (v := 1) F dX6_holds_102 (by decide) ?_
      refine z_goto (pc := 103) (tgt := 107) F dX6_holds_103 (by decide) ?_
      exact z_zret (pc := 107) F hR rfl dX6_holds_107 (Nat.le_of_ble_eq_true rfl) (Nat.le_of_ble_eq_true rfl) ⟨by rw [show hldB _ x y = true from by simp_all [hldB, l_nle, l_nlt', l_ge]]; rfl, rfl⟩
  · refine z_lookup (off := 125) (tgt := 126) (pc := 1) F dX6_holds_1 (by decide) (by decide) (by decide) ?_
    refine z_lload_n (pc := 126) F dX6_holds_126 rfl 1 rfl ?_
    refine z_lconst (pc := 127) (v := 0) F dX6_holds_127 (by decide) ?_
    refine z_l_ne (pc := 128) (tgt := 138) F dX6_holds_128 dX6_holds_129 (by decide) (fun c128 => ?_) (fun c128 => ?_)
    · refine z_iconst (pc := 138) (v := 1) F dX6_holds_138 (by decide) ?_
      refine z_goto (pc := 139) (tgt := 143) F dX6_holds_139 (by decide) ?_
      exact z_zret (pc := 143) F hR rfl dX6_holds_143 (Nat.le_of_ble_eq_true rfl) (Nat.le_of_ble_eq_true rfl) ⟨by rw [show hldB _ x y = true from by simp_all [hldB, l_nle, l_nlt', l_ge]]; rfl, rfl⟩
    · refine z_lload_n (pc := 132) F dX6_holds_132 rfl 2 rfl ?_
      refine z_lconst (pc := 133) (v := 0) F dX6_holds_133 (by decide) ?_
      refine z_l_eq (pc := 134) (tgt := 142) F dX6_holds_134 dX6_holds_135 (by decide) (fun c134 => ?_) (fun c134 => ?_)
      · refine z_iconst (pc := 142) (v := 0) F dX6_holds_142 (by decide) ?_
        exact z_zret (pc := 143) F hR rfl dX6_holds_143 (Nat.le_of_ble_eq_true rfl) (Nat.le_of_ble_eq_true rfl) ⟨by rw [show hldB _ x y = false from by simp_all [hldB, l_nle, l_nlt', l_ge]]; rfl, rfl⟩
      · refine z_iconst (pc := 138) (v := 1) F dX6_holds_138 (by decide) ?_
        refine z_goto (pc := 139) (tgt := 143) F dX6_holds_139 (by decide) ?_
        exact z_zret (pc := 143) F hR rfl dX6_holds_143 (Nat.le_of_ble_eq_true rfl) (Nat.le_of_ble_eq_true rfl) ⟨by rw [show hldB _ x y = true from by simp_all [hldB, l_nle, l_nlt', l_ge]]; rfl, rfl⟩
  · refine z_lookup (off := 143) (tgt := 144) (pc := 1) F dX6_holds_1 (by decide) (by decide) (by decide) ?_
    refine z_lload_n (pc := 144) F dX6_holds_144 rfl 1 rfl ?_
    refine z_lconst (pc := 145) (v := 0) F dX6_holds_145 (by decide) ?_
    refine z_l_ne (pc := 146) (tgt := 154) F dX6_holds_146 dX6_holds_147 (by decide) (fun c146 => ?_) (fun c146 => ?_)
    · refine z_iconst (pc := 154) (v := 0) F dX6_holds_154 (by decide) ?_
      exact z_zret (pc := 155) F hR rfl dX6_holds_155 (Nat.le_of_ble_eq_true rfl) (Nat.le_of_ble_eq_true rfl) ⟨by rw [show hldB _ x y = false from by simp_all [hldB, l_nle, l_nlt', l_ge]]; rfl, rfl⟩
    · refine z_iconst (pc := 150) (v := 1) F dX6_holds_150 (by decide) ?_
      refine z_goto (pc := 151) (tgt := 155) F dX6_holds_151 (by decide) ?_
      exact z_zret (pc := 155) F hR rfl dX6_holds_155 (Nat.le_of_ble_eq_true rfl) (Nat.le_of_ble_eq_true rfl) ⟨by rw [show hldB _ x y = true from by simp_all [hldB, l_nle, l_nlt', l_ge]]; rfl, rfl⟩
set_option maxHeartbeats 4000000 in
set_option maxRecDepth 100000 in
theorem c_X6_workPair (l : Launch) (E : zE) (r : Nat → Nat) (rs : Nat → Nat) (S : zS) (SS : zS) (h : Int64) (ab : Int32) (va : Nat → Int64) (an : Nat → Int32) (c : Nat) (V : zVs) (a : Nat) (b : Nat) (i : Nat) (hv : hoV V va an) (hal : a < V.length) (ha8 : a < 80) (hbl : b < V.length) (hb8 : b < 80) (hi : i < 80) (hc : isP c) : Ct l yX6_workPair cX6_workPair 9 (some .long) ({ frames := 1, cells := 0, slots := 0, locals := 60 } : Room) E (wkw E r (rs 0) (mwv S h ab va an) ++ sw E rs SS) [.ref (r 0), .int (nI c), .int (nI a), .int (nI b), .int (nI i)] (fun v_ w_ => ∃ an' : Nat → Int32, v_ = some (.long ((evP c (gV V (nI a)) (gV V (nI b))).1)) ∧ w_ = wkw E r (rs 0) (mwv S h ab va an') ++ sw E rs SS ∧ (∀ k : Nat, k < i → an' k = an k) ∧ (an i = 0 → an' i = bI (evP c (gV V (nI a)) (gV V (nI b))).2)) := by
  refine Ct.of (by decide) (Nat.le_of_ble_eq_true rfl) (lv := [(0, .ref (r 0)), (1, .int (nI c)), (2, .int (nI a)), (3, .int (nI b)), (4, .int (nI i))]) rfl ?_
  intro X F hR
  have F : zF X l ({ frames := 1, cells := 0, slots := 0, locals := 60 } : Room) E cX6_workPair 9 "LiveQueries$Worker" := F
  have hva := hoV_at hv hal (by omega)
  have hvb := hoV_at hv hbl (by omega)
  refine z_iload_n (pc := 0) F dX6_workPair_0 rfl 2 rfl ?_
  refine z_callS0 (pc := 1) (rest := []) F (c_X6_isNode l E (nI a)) 1 ww_Worker_64 (by decide +kernel) rfl ⟨Nat.le_of_ble_eq_true rfl, Nat.le_of_ble_eq_true rfl⟩ ⟨Nat.le_of_ble_eq_true rfl, Nat.le_of_ble_eq_true rfl⟩ rfl (Nat.le_of_ble_eq_true rfl) dX6_workPair_1 (fun v_ w1_ hp => ?_)
  obtain ⟨rfl, rfl⟩ := hp
  show Z X (0) (0) (wkw E r (rs 0) (mwv S h ab va an) ++ sw E rs SS) [(0, .ref (r 0)), (1, .int (nI c)), (2, .int (nI a)), (3, .int (nI b)), (4, .int (nI i))] 4 [.int (bI (decide (¬ (nI a) < 0 ∧ ¬ 80 ≤ (nI a))))]
  rw [show (bI (decide (¬ (nI a) < 0 ∧ ¬ 80 ≤ (nI a)))) = 1 from (by rw [isN_t ha8]; rfl)]
  refine z_if_eq (pc := 4) (tgt := 32) F dX6_workPair_4 (by decide) (fun h => absurd h (by decide)) (fun _ => ?_)
  refine z_iload_n (pc := 7) F dX6_workPair_7 rfl 3 rfl ?_
  refine z_callS0 (pc := 8) (rest := []) F (c_X6_isNode l E (nI b)) 1 ww_Worker_64 (by decide +kernel) rfl ⟨Nat.le_of_ble_eq_true rfl, Nat.le_of_ble_eq_true rfl⟩ ⟨Nat.le_of_ble_eq_true rfl, Nat.le_of_ble_eq_true rfl⟩ rfl (Nat.le_of_ble_eq_true rfl) dX6_workPair_8 (fun v_ w1_ hp => ?_)
  obtain ⟨rfl, rfl⟩ := hp
  show Z X (0) (0) (wkw E r (rs 0) (mwv S h ab va an) ++ sw E rs SS) [(0, .ref (r 0)), (1, .int (nI c)), (2, .int (nI a)), (3, .int (nI b)), (4, .int (nI i))] 11 [.int (bI (decide (¬ (nI b) < 0 ∧ ¬ 80 ≤ (nI b))))]
  rw [show (bI (decide (¬ (nI b) < 0 ∧ ¬ 80 ≤ (nI b)))) = 1 from (by rw [isN_t hb8]; rfl)]
  refine z_if_eq (pc := 11) (tgt := 32) F dX6_workPair_11 (by decide) (fun h => absurd h (by decide)) (fun _ => ?_)
  refine z_aload_n (pc := 14) F dX6_workPair_14 rfl 0 rfl ?_
  refine z_get (pc := 15) (v := .ref (r 2)) F iX6 0 rfl rfl 2 (by decide) tw_167 rfl dX6_workPair_15 ?_
  refine z_iload_n (pc := 18) F dX6_workPair_18 rfl 2 rfl ?_
  refine z_zaldN (pc := 19) (f := an) F 2 2 rfl rfl a rfl (by omega) (by decide) dX6_workPair_19 ?_
  rw [show ((an) a) = bI (gV V (nI a)).2 from hva.2]
  refine z_if_ne (pc := 20) (tgt := 32) F dX6_workPair_20 (by decide) (fun c20 => ?_) (fun c20 => ?_)
  · replace c20 := bI_t c20
    have hE := evP_t (c := c) (x := (gV V (nI a))) (y := (gV V (nI b))) (by first | exact Or.inl c20 | exact Or.inr c29)
    refine z_aload_n (pc := 32) F dX6_workPair_32 rfl 0 rfl ?_
    refine z_iload (pc := 33) F dX6_workPair_33 4 rfl ?_
    refine z_callVW (pc := 35) (q0 := 0) (ci := 6) (rest := []) F (c_X6_missing l E r rs S SS h ab va an i hi) 1 ww_Worker_78 (by decide +kernel) rfl ⟨Nat.le_of_ble_eq_true rfl, Nat.le_of_ble_eq_true rfl⟩ ⟨Nat.le_of_ble_eq_true rfl, Nat.le_of_ble_eq_true rfl⟩ rfl rfl rfl rfl (Nat.le_of_ble_eq_true rfl) dX6_workPair_35 (fun v_ w1_ hp => ?_)
    obtain ⟨rfl, rfl⟩ := hp
    show Z X (0) (0) (wkw E r (rs 0) (mwv S h ab va (upd an i 1)) ++ sw E rs SS) [(0, .ref (r 0)), (1, .int (nI c)), (2, .int (nI a)), (3, .int (nI b)), (4, .int (nI i))] 38 [.long 0]
    exact z_lret (pc := 38) F hR dX6_workPair_38 (Nat.le_of_ble_eq_true rfl) (Nat.le_of_ble_eq_true rfl) ⟨_, by rw [hE], rfl, fun k hk => pk_un (by omega), fun _ => by rw [pk_us, hE]; rfl⟩
  · replace c20 := bI_f c20
    refine z_aload_n (pc := 23) F dX6_workPair_23 rfl 0 rfl ?_
    refine z_get (pc := 24) (v := .ref (r 2)) F iX6 0 rfl rfl 2 (by decide) tw_167 rfl dX6_workPair_24 ?_
    refine z_iload_n (pc := 27) F dX6_workPair_27 rfl 3 rfl ?_
    refine z_zaldN (pc := 28) (f := an) F 2 2 rfl rfl b rfl (by omega) (by decide) dX6_workPair_28 ?_
    rw [show ((an) b) = bI (gV V (nI b)).2 from hvb.2]
    refine z_if_eq (pc := 29) (tgt := 39) F dX6_workPair_29 (by decide) (fun c29 => ?_) (fun c29 => ?_)
    · replace c29 := bI_f c29
      have hE := evP_f (c := c) c20 c29
      refine z_aload_n (pc := 39) F dX6_workPair_39 rfl 0 rfl ?_
      refine z_get (pc := 40) (v := .ref (r 1)) F iX6 0 rfl rfl 1 (by decide) tw_166 rfl dX6_workPair_40 ?_
      refine z_iload_n (pc := 43) F dX6_workPair_43 rfl 2 rfl ?_
      refine z_laldN (pc := 44) (f := va) F 1 1 rfl rfl a rfl (by omega) (by decide) dX6_workPair_44 ?_
      rw [show ((va) a) = (gV V (nI a)).1 from hva.1]
      refine z_lstore (pc := 45) (lv' := [(0, .ref (r 0)), (1, .int (nI c)), (2, .int (nI a)), (3, .int (nI b)), (4, .int (nI i)), (5, .long ((gV V (nI a)).1))]) F dX6_workPair_45 (by decide) [1, 2, 3, 4, 5, 0] rfl ?_
      refine z_aload_n (pc := 47) F dX6_workPair_47 rfl 0 rfl ?_
      refine z_get (pc := 48) (v := .ref (r 1)) F iX6 0 rfl rfl 1 (by decide) tw_166 rfl dX6_workPair_48 ?_
      refine z_iload_n (pc := 51) F dX6_workPair_51 rfl 3 rfl ?_
      refine z_laldN (pc := 52) (f := va) F 1 1 rfl rfl b rfl (by omega) (by decide) dX6_workPair_52 ?_
      rw [show ((va) b) = (gV V (nI b)).1 from hvb.1]
      refine z_lstore (pc := 53) (lv' := [(0, .ref (r 0)), (1, .int (nI c)), (2, .int (nI a)), (3, .int (nI b)), (4, .int (nI i)), (5, .long ((gV V (nI a)).1)), (7, .long ((gV V (nI b)).1))]) F dX6_workPair_53 (by decide) [1, 2, 3, 4, 5, 6, 0] rfl ?_
      refine z_iload_n (pc := 55) F dX6_workPair_55 rfl 1 rfl ?_
      rcases hc with rfl | rfl | rfl | rfl | rfl | rfl | rfl | rfl | rfl | rfl | rfl | rfl | rfl
      · refine z_lookup (off := 100) (tgt := 156) (pc := 56) F dX6_workPair_56 (by decide) (by decide) (by decide) ?_
        refine z_lload (pc := 156) F dX6_workPair_156 6 rfl ?_
        refine z_lconst (pc := 158) (v := 0) F dX6_workPair_158 (by decide) ?_
        refine z_l_ne (pc := 159) (tgt := 172) F dX6_workPair_159 dX6_workPair_160 (by decide) (fun c159 => ?_) (fun c159 => ?_)
        · refine z_lload (pc := 172) F dX6_workPair_172 5 rfl ?_
          refine z_lload (pc := 174) F dX6_workPair_174 6 rfl ?_
          refine z_lrem (pc := 176) F dX6_workPair_176 c159 ?_
          exact z_lret (pc := 177) F hR dX6_workPair_177 (Nat.le_of_ble_eq_true rfl) (Nat.le_of_ble_eq_true rfl) ⟨an, by rw [hE]; first | rfl | simp_all [prV], rfl, fun _ _ => rfl, fun h0 => by rw [h0, hE]; first | rfl | simp_all [prV, bI]⟩
        · refine z_aload_n (pc := 163) F dX6_workPair_163 rfl 0 rfl ?_
          refine z_iload (pc := 164) F dX6_workPair_164 4 rfl ?_
          refine z_callVW (pc := 166) (q0 := 0) (ci := 6) (rest := []) F (c_X6_missing l E r rs S SS h ab va an i hi) 1 ww_Worker_78 (by decide +kernel) rfl ⟨Nat.le_of_ble_eq_true rfl, Nat.le_of_ble_eq_true rfl⟩ ⟨Nat.le_of_ble_eq_true rfl, Nat.le_of_ble_eq_true rfl⟩ rfl rfl rfl rfl (Nat.le_of_ble_eq_true rfl) dX6_workPair_166 (fun v_ w1_ hp => ?_)
          obtain ⟨rfl, rfl⟩ := hp
          show Z X (0) (0) (wkw E r (rs 0) (mwv S h ab va (upd an i 1)) ++ sw E rs SS) [(0, .ref (r 0)), (1, .int (nI 37)), (2, .int (nI a)), (3, .int (nI b)), (4, .int (nI i)), (5, .long ((gV V (nI a)).1)), (7, .long ((gV V (nI b)).1))] 169 [.long 0]
          refine z_goto (pc := 169) (tgt := 177) F dX6_workPair_169 (by decide) ?_
          exact z_lret (pc := 177) F hR dX6_workPair_177 (Nat.le_of_ble_eq_true rfl) (Nat.le_of_ble_eq_true rfl) ⟨_, by rw [hE]; first | rfl | simp_all [prV], rfl, fun k hk => pk_un (by omega), fun _ => by rw [pk_us, hE]; first | rfl | simp_all [prV, bI]⟩
      · refine z_lookup (off := 72) (tgt := 128) (pc := 56) F dX6_workPair_56 (by decide) (by decide) (by decide) ?_
        refine z_lload (pc := 128) F dX6_workPair_128 5 rfl ?_
        refine z_lload (pc := 130) F dX6_workPair_130 6 rfl ?_
        refine z_lmul (pc := 132) F dX6_workPair_132 ?_
        exact z_lret (pc := 133) F hR dX6_workPair_133 (Nat.le_of_ble_eq_true rfl) (Nat.le_of_ble_eq_true rfl) ⟨an, by rw [hE]; first | rfl | simp_all [prV], rfl, fun _ _ => rfl, fun h0 => by rw [h0, hE]; first | rfl | simp_all [prV, bI]⟩
      · refine z_lookup (off := 60) (tgt := 116) (pc := 56) F dX6_workPair_56 (by decide) (by decide) (by decide) ?_
        refine z_lload (pc := 116) F dX6_workPair_116 5 rfl ?_
        refine z_lload (pc := 118) F dX6_workPair_118 6 rfl ?_
        refine z_ladd (pc := 120) F dX6_workPair_120 ?_
        exact z_lret (pc := 121) F hR dX6_workPair_121 (Nat.le_of_ble_eq_true rfl) (Nat.le_of_ble_eq_true rfl) ⟨an, by rw [hE]; first | rfl | simp_all [prV], rfl, fun _ _ => rfl, fun h0 => by rw [h0, hE]; first | rfl | simp_all [prV, bI]⟩
      · refine z_lookup (off := 66) (tgt := 122) (pc := 56) F dX6_workPair_56 (by decide) (by decide) (by decide) ?_
        refine z_lload (pc := 122) F dX6_workPair_122 5 rfl ?_
        refine z_lload (pc := 124) F dX6_workPair_124 6 rfl ?_
        refine z_lsub (pc := 126) F dX6_workPair_126 ?_
        exact z_lret (pc := 127) F hR dX6_workPair_127 (Nat.le_of_ble_eq_true rfl) (Nat.le_of_ble_eq_true rfl) ⟨an, by rw [hE]; first | rfl | simp_all [prV], rfl, fun _ _ => rfl, fun h0 => by rw [h0, hE]; first | rfl | simp_all [prV, bI]⟩
      · refine z_lookup (off := 78) (tgt := 134) (pc := 56) F dX6_workPair_56 (by decide) (by decide) (by decide) ?_
        refine z_lload (pc := 134) F dX6_workPair_134 6 rfl ?_
        refine z_lconst (pc := 136) (v := 0) F dX6_workPair_136 (by decide) ?_
        refine z_l_ne (pc := 137) (tgt := 150) F dX6_workPair_137 dX6_workPair_138 (by decide) (fun c137 => ?_) (fun c137 => ?_)
        · refine z_lload (pc := 150) F dX6_workPair_150 5 rfl ?_
          refine z_lload (pc := 152) F dX6_workPair_152 6 rfl ?_
          refine z_ldiv (pc := 154) F dX6_workPair_154 c137 ?_
          exact z_lret (pc := 155) F hR dX6_workPair_155 (Nat.le_of_ble_eq_true rfl) (Nat.le_of_ble_eq_true rfl) ⟨an, by rw [hE]; first | rfl | simp_all [prV], rfl, fun _ _ => rfl, fun h0 => by rw [h0, hE]; first | rfl | simp_all [prV, bI]⟩
        · refine z_aload_n (pc := 141) F dX6_workPair_141 rfl 0 rfl ?_
          refine z_iload (pc := 142) F dX6_workPair_142 4 rfl ?_
          refine z_callVW (pc := 144) (q0 := 0) (ci := 6) (rest := []) F (c_X6_missing l E r rs S SS h ab va an i hi) 1 ww_Worker_78 (by decide +kernel) rfl ⟨Nat.le_of_ble_eq_true rfl, Nat.le_of_ble_eq_true rfl⟩ ⟨Nat.le_of_ble_eq_true rfl, Nat.le_of_ble_eq_true rfl⟩ rfl rfl rfl rfl (Nat.le_of_ble_eq_true rfl) dX6_workPair_144 (fun v_ w1_ hp => ?_)
          obtain ⟨rfl, rfl⟩ := hp
          show Z X (0) (0) (wkw E r (rs 0) (mwv S h ab va (upd an i 1)) ++ sw E rs SS) [(0, .ref (r 0)), (1, .int (nI 47)), (2, .int (nI a)), (3, .int (nI b)), (4, .int (nI i)), (5, .long ((gV V (nI a)).1)), (7, .long ((gV V (nI b)).1))] 147 [.long 0]
          refine z_goto (pc := 147) (tgt := 155) F dX6_workPair_147 (by decide) ?_
          exact z_lret (pc := 155) F hR dX6_workPair_155 (Nat.le_of_ble_eq_true rfl) (Nat.le_of_ble_eq_true rfl) ⟨_, by rw [hE]; first | rfl | simp_all [prV], rfl, fun k hk => pk_un (by omega), fun _ => by rw [pk_us, hE]; first | rfl | simp_all [prV, bI]⟩
      · refine z_lookup (off := 122) (tgt := 178) (pc := 56) F dX6_workPair_56 (by decide) (by decide) (by decide) ?_
        refine z_lload (pc := 178) F dX6_workPair_178 5 rfl ?_
        refine z_lneg (pc := 180) F dX6_workPair_180 ?_
        exact z_lret (pc := 181) F hR dX6_workPair_181 (Nat.le_of_ble_eq_true rfl) (Nat.le_of_ble_eq_true rfl) ⟨an, by rw [hE]; first | rfl | simp_all [prV], rfl, fun _ _ => rfl, fun h0 => by rw [h0, hE]; first | rfl | simp_all [prV, bI]⟩
      · refine z_lookup (off := 126) (tgt := 182) (pc := 56) F dX6_workPair_56 (by decide) (by decide) (by decide) ?_
        refine z_iload_n (pc := 182) F dX6_workPair_182 rfl 1 rfl ?_
        refine z_lload (pc := 183) F dX6_workPair_183 5 rfl ?_
        refine z_lload (pc := 185) F dX6_workPair_185 6 rfl ?_
        refine z_callS0 (pc := 187) (rest := []) F (c_X6_holds l E 61 ((gV V (nI a)).1) ((gV V (nI b)).1) (by decide)) 3 ww_Worker_96 (by decide +kernel) rfl ⟨Nat.le_of_ble_eq_true rfl, Nat.le_of_ble_eq_true rfl⟩ ⟨Nat.le_of_ble_eq_true rfl, Nat.le_of_ble_eq_true rfl⟩ rfl (Nat.le_of_ble_eq_true rfl) dX6_workPair_187 (fun v_ w1_ hp => ?_)
        obtain ⟨rfl, rfl⟩ := hp
        show Z X (0) (0) (wkw E r (rs 0) (mwv S h ab va an) ++ sw E rs SS) [(0, .ref (r 0)), (1, .int (nI 61)), (2, .int (nI a)), (3, .int (nI b)), (4, .int (nI i)), (5, .long ((gV V (nI a)).1)), (7, .long ((gV V (nI b)).1))] 190 [.int (bI (hldB 61 ((gV V (nI a)).1) ((gV V (nI b)).1)))]
        refine z_if_eq (pc := 190) (tgt := 197) F dX6_workPair_190 (by decide) (fun c190 => ?_) (fun c190 => ?_)
        · replace c190 := bI_f c190
          refine z_lconst (pc := 197) (v := 0) F dX6_workPair_197 (by decide) ?_
          exact z_lret (pc := 198) F hR dX6_workPair_198 (Nat.le_of_ble_eq_true rfl) (Nat.le_of_ble_eq_true rfl) ⟨an, by rw [hE]; first | rfl | simp_all [prV], rfl, fun _ _ => rfl, fun h0 => by rw [h0, hE]; first | rfl | simp_all [prV, bI]⟩
        · replace c190 := bI_t c190
          refine z_lconst (pc := 193) (v := 1) F dX6_workPair_193 (by decide) ?_
          refine z_goto (pc := 194) (tgt := 198) F dX6_workPair_194 (by decide) ?_
          exact z_lret (pc := 198) F hR dX6_workPair_198 (Nat.le_of_ble_eq_true rfl) (Nat.le_of_ble_eq_true rfl) ⟨an, by rw [hE]; first | rfl | simp_all [prV], rfl, fun _ _ => rfl, fun h0 => by rw [h0, hE]; first | rfl | simp_all [prV, bI]⟩
      · refine z_lookup (off := 126) (tgt := 182) (pc := 56) F dX6_workPair_56 (by decide) (by decide) (by decide) ?_
        refine z_iload_n (pc := 182) F dX6_workPair_182 rfl 1 rfl ?_
        refine z_lload (pc := 183) F dX6_workPair_183 5 rfl ?_
        refine z_lload (pc := 185) F dX6_workPair_185 6 rfl ?_
        refine z_callS0 (pc := 187) (rest := []) F (c_X6_holds l E 35 ((gV V (nI a)).1) ((gV V (nI b)).1) (by decide)) 3 ww_Worker_96 (by decide +kernel) rfl ⟨Nat.le_of_ble_eq_true rfl, Nat.le_of_ble_eq_true rfl⟩ ⟨Nat.le_of_ble_eq_true rfl, Nat.le_of_ble_eq_true rfl⟩ rfl (Nat.le_of_ble_eq_true rfl) dX6_workPair_187 (fun v_ w1_ hp => ?_)
        obtain ⟨rfl, rfl⟩ := hp
        show Z X (0) (0) (wkw E r (rs 0) (mwv S h ab va an) ++ sw E rs SS) [(0, .ref (r 0)), (1, .int (nI 35)), (2, .int (nI a)), (3, .int (nI b)), (4, .int (nI i)), (5, .long ((gV V (nI a)).1)), (7, .long ((gV V (nI b)).1))] 190 [.int (bI (hldB 35 ((gV V (nI a)).1) ((gV V (nI b)).1)))]
        refine z_if_eq (pc := 190) (tgt := 197) F dX6_workPair_190 (by decide) (fun c190 => ?_) (fun c190 => ?_)
        · replace c190 := bI_f c190
          refine z_lconst (pc := 197) (v := 0) F dX6_workPair_197 (by decide) ?_
          exact z_lret (pc := 198) F hR dX6_workPair_198 (Nat.le_of_ble_eq_true rfl) (Nat.le_of_ble_eq_true rfl) ⟨an, by rw [hE]; first | rfl | simp_all [prV], rfl, fun _ _ => rfl, fun h0 => by rw [h0, hE]; first | rfl | simp_all [prV, bI]⟩
        · replace c190 := bI_t c190
          refine z_lconst (pc := 193) (v := 1) F dX6_workPair_193 (by decide) ?_
          refine z_goto (pc := 194) (tgt := 198) F dX6_workPair_194 (by decide) ?_
          exact z_lret (pc := 198) F hR dX6_workPair_198 (Nat.le_of_ble_eq_true rfl) (Nat.le_of_ble_eq_true rfl) ⟨an, by rw [hE]; first | rfl | simp_all [prV], rfl, fun _ _ => rfl, fun h0 => by rw [h0, hE]; first | rfl | simp_all [prV, bI]⟩
      · refine z_lookup (off := 126) (tgt := 182) (pc := 56) F dX6_workPair_56 (by decide) (by decide) (by decide) ?_
        refine z_iload_n (pc := 182) F dX6_workPair_182 rfl 1 rfl ?_
        refine z_lload (pc := 183) F dX6_workPair_183 5 rfl ?_
        refine z_lload (pc := 185) F dX6_workPair_185 6 rfl ?_
        refine z_callS0 (pc := 187) (rest := []) F (c_X6_holds l E 60 ((gV V (nI a)).1) ((gV V (nI b)).1) (by decide)) 3 ww_Worker_96 (by decide +kernel) rfl ⟨Nat.le_of_ble_eq_true rfl, Nat.le_of_ble_eq_true rfl⟩ ⟨Nat.le_of_ble_eq_true rfl, Nat.le_of_ble_eq_true rfl⟩ rfl (Nat.le_of_ble_eq_true rfl) dX6_workPair_187 (fun v_ w1_ hp => ?_)
        obtain ⟨rfl, rfl⟩ := hp
        show Z X (0) (0) (wkw E r (rs 0) (mwv S h ab va an) ++ sw E rs SS) [(0, .ref (r 0)), (1, .int (nI 60)), (2, .int (nI a)), (3, .int (nI b)), (4, .int (nI i)), (5, .long ((gV V (nI a)).1)), (7, .long ((gV V (nI b)).1))] 190 [.int (bI (hldB 60 ((gV V (nI a)).1) ((gV V (nI b)).1)))]
        refine z_if_eq (pc := 190) (tgt := 197) F dX6_workPair_190 (by decide) (fun c190 => ?_) (fun c190 => ?_)
        · replace c190 := bI_f c190
          refine z_lconst (pc := 197) (v := 0) F dX6_workPair_197 (by decide) ?_
          exact z_lret (pc := 198) F hR dX6_workPair_198 (Nat.le_of_ble_eq_true rfl) (Nat.le_of_ble_eq_true rfl) ⟨an, by rw [hE]; first | rfl | simp_all [prV], rfl, fun _ _ => rfl, fun h0 => by rw [h0, hE]; first | rfl | simp_all [prV, bI]⟩
        · replace c190 := bI_t c190
          refine z_lconst (pc := 193) (v := 1) F dX6_workPair_193 (by decide) ?_
          refine z_goto (pc := 194) (tgt := 198) F dX6_workPair_194 (by decide) ?_
          exact z_lret (pc := 198) F hR dX6_workPair_198 (Nat.le_of_ble_eq_true rfl) (Nat.le_of_ble_eq_true rfl) ⟨an, by rw [hE]; first | rfl | simp_all [prV], rfl, fun _ _ => rfl, fun h0 => by rw [h0, hE]; first | rfl | simp_all [prV, bI]⟩
      · refine z_lookup (off := 126) (tgt := 182) (pc := 56) F dX6_workPair_56 (by decide) (by decide) (by decide) ?_
        refine z_iload_n (pc := 182) F dX6_workPair_182 rfl 1 rfl ?_
        refine z_lload (pc := 183) F dX6_workPair_183 5 rfl ?_
        refine z_lload (pc := 185) F dX6_workPair_185 6 rfl ?_
        refine z_callS0 (pc := 187) (rest := []) F (c_X6_holds l E 62 ((gV V (nI a)).1) ((gV V (nI b)).1) (by decide)) 3 ww_Worker_96 (by decide +kernel) rfl ⟨Nat.le_of_ble_eq_true rfl, Nat.le_of_ble_eq_true rfl⟩ ⟨Nat.le_of_ble_eq_true rfl, Nat.le_of_ble_eq_true rfl⟩ rfl (Nat.le_of_ble_eq_true rfl) dX6_workPair_187 (fun v_ w1_ hp => ?_)
        obtain ⟨rfl, rfl⟩ := hp
        show Z X (0) (0) (wkw E r (rs 0) (mwv S h ab va an) ++ sw E rs SS) [(0, .ref (r 0)), (1, .int (nI 62)), (2, .int (nI a)), (3, .int (nI b)), (4, .int (nI i)), (5, .long ((gV V (nI a)).1)), (7, .long ((gV V (nI b)).1))] 190 [.int (bI (hldB 62 ((gV V (nI a)).1) ((gV V (nI b)).1)))]
        refine z_if_eq (pc := 190) (tgt := 197) F dX6_workPair_190 (by decide) (fun c190 => ?_) (fun c190 => ?_)
        · replace c190 := bI_f c190
          refine z_lconst (pc := 197) (v := 0) F dX6_workPair_197 (by decide) ?_
          exact z_lret (pc := 198) F hR dX6_workPair_198 (Nat.le_of_ble_eq_true rfl) (Nat.le_of_ble_eq_true rfl) ⟨an, by rw [hE]; first | rfl | simp_all [prV], rfl, fun _ _ => rfl, fun h0 => by rw [h0, hE]; first | rfl | simp_all [prV, bI]⟩
        · replace c190 := bI_t c190
          refine z_lconst (pc := 193) (v := 1) F dX6_workPair_193 (by decide) ?_
          refine z_goto (pc := 194) (tgt := 198) F dX6_workPair_194 (by decide) ?_
          exact z_lret (pc := 198) F hR dX6_workPair_198 (Nat.le_of_ble_eq_true rfl) (Nat.le_of_ble_eq_true rfl) ⟨an, by rw [hE]; first | rfl | simp_all [prV], rfl, fun _ _ => rfl, fun h0 => by rw [h0, hE]; first | rfl | simp_all [prV, bI]⟩
      · refine z_lookup (off := 126) (tgt := 182) (pc := 56) F dX6_workPair_56 (by decide) (by decide) (by decide) ?_
        refine z_iload_n (pc := 182) F dX6_workPair_182 rfl 1 rfl ?_
        refine z_lload (pc := 183) F dX6_workPair_183 5 rfl ?_
        refine z_lload (pc := 185) F dX6_workPair_185 6 rfl ?_
        refine z_callS0 (pc := 187) (rest := []) F (c_X6_holds l E 38 ((gV V (nI a)).1) ((gV V (nI b)).1) (by decide)) 3 ww_Worker_96 (by decide +kernel) rfl ⟨Nat.le_of_ble_eq_true rfl, Nat.le_of_ble_eq_true rfl⟩ ⟨Nat.le_of_ble_eq_true rfl, Nat.le_of_ble_eq_true rfl⟩ rfl (Nat.le_of_ble_eq_true rfl) dX6_workPair_187 (fun v_ w1_ hp => ?_)
        obtain ⟨rfl, rfl⟩ := hp
        show Z X (0) (0) (wkw E r (rs 0) (mwv S h ab va an) ++ sw E rs SS) [(0, .ref (r 0)), (1, .int (nI 38)), (2, .int (nI a)), (3, .int (nI b)), (4, .int (nI i)), (5, .long ((gV V (nI a)).1)), (7, .long ((gV V (nI b)).1))] 190 [.int (bI (hldB 38 ((gV V (nI a)).1) ((gV V (nI b)).1)))]
        refine z_if_eq (pc := 190) (tgt := 197) F dX6_workPair_190 (by decide) (fun c190 => ?_) (fun c190 => ?_)
        · replace c190 := bI_f c190
          refine z_lconst (pc := 197) (v := 0) F dX6_workPair_197 (by decide) ?_
          exact z_lret (pc := 198) F hR dX6_workPair_198 (Nat.le_of_ble_eq_true rfl) (Nat.le_of_ble_eq_true rfl) ⟨an, by rw [hE]; first | rfl | simp_all [prV], rfl, fun _ _ => rfl, fun h0 => by rw [h0, hE]; first | rfl | simp_all [prV, bI]⟩
        · replace c190 := bI_t c190
          refine z_lconst (pc := 193) (v := 1) F dX6_workPair_193 (by decide) ?_
          refine z_goto (pc := 194) (tgt := 198) F dX6_workPair_194 (by decide) ?_
          exact z_lret (pc := 198) F hR dX6_workPair_198 (Nat.le_of_ble_eq_true rfl) (Nat.le_of_ble_eq_true rfl) ⟨an, by rw [hE]; first | rfl | simp_all [prV], rfl, fun _ _ => rfl, fun h0 => by rw [h0, hE]; first | rfl | simp_all [prV, bI]⟩
      · refine z_lookup (off := 126) (tgt := 182) (pc := 56) F dX6_workPair_56 (by decide) (by decide) (by decide) ?_
        refine z_iload_n (pc := 182) F dX6_workPair_182 rfl 1 rfl ?_
        refine z_lload (pc := 183) F dX6_workPair_183 5 rfl ?_
        refine z_lload (pc := 185) F dX6_workPair_185 6 rfl ?_
        refine z_callS0 (pc := 187) (rest := []) F (c_X6_holds l E 124 ((gV V (nI a)).1) ((gV V (nI b)).1) (by decide)) 3 ww_Worker_96 (by decide +kernel) rfl ⟨Nat.le_of_ble_eq_true rfl, Nat.le_of_ble_eq_true rfl⟩ ⟨Nat.le_of_ble_eq_true rfl, Nat.le_of_ble_eq_true rfl⟩ rfl (Nat.le_of_ble_eq_true rfl) dX6_workPair_187 (fun v_ w1_ hp => ?_)
        obtain ⟨rfl, rfl⟩ := hp
        show Z X (0) (0) (wkw E r (rs 0) (mwv S h ab va an) ++ sw E rs SS) [(0, .ref (r 0)), (1, .int (nI 124)), (2, .int (nI a)), (3, .int (nI b)), (4, .int (nI i)), (5, .long ((gV V (nI a)).1)), (7, .long ((gV V (nI b)).1))] 190 [.int (bI (hldB 124 ((gV V (nI a)).1) ((gV V (nI b)).1)))]
        refine z_if_eq (pc := 190) (tgt := 197) F dX6_workPair_190 (by decide) (fun c190 => ?_) (fun c190 => ?_)
        · replace c190 := bI_f c190
          refine z_lconst (pc := 197) (v := 0) F dX6_workPair_197 (by decide) ?_
          exact z_lret (pc := 198) F hR dX6_workPair_198 (Nat.le_of_ble_eq_true rfl) (Nat.le_of_ble_eq_true rfl) ⟨an, by rw [hE]; first | rfl | simp_all [prV], rfl, fun _ _ => rfl, fun h0 => by rw [h0, hE]; first | rfl | simp_all [prV, bI]⟩
        · replace c190 := bI_t c190
          refine z_lconst (pc := 193) (v := 1) F dX6_workPair_193 (by decide) ?_
          refine z_goto (pc := 194) (tgt := 198) F dX6_workPair_194 (by decide) ?_
          exact z_lret (pc := 198) F hR dX6_workPair_198 (Nat.le_of_ble_eq_true rfl) (Nat.le_of_ble_eq_true rfl) ⟨an, by rw [hE]; first | rfl | simp_all [prV], rfl, fun _ _ => rfl, fun h0 => by rw [h0, hE]; first | rfl | simp_all [prV, bI]⟩
      · refine z_lookup (off := 126) (tgt := 182) (pc := 56) F dX6_workPair_56 (by decide) (by decide) (by decide) ?_
        refine z_iload_n (pc := 182) F dX6_workPair_182 rfl 1 rfl ?_
        refine z_lload (pc := 183) F dX6_workPair_183 5 rfl ?_
        refine z_lload (pc := 185) F dX6_workPair_185 6 rfl ?_
        refine z_callS0 (pc := 187) (rest := []) F (c_X6_holds l E 33 ((gV V (nI a)).1) ((gV V (nI b)).1) (by decide)) 3 ww_Worker_96 (by decide +kernel) rfl ⟨Nat.le_of_ble_eq_true rfl, Nat.le_of_ble_eq_true rfl⟩ ⟨Nat.le_of_ble_eq_true rfl, Nat.le_of_ble_eq_true rfl⟩ rfl (Nat.le_of_ble_eq_true rfl) dX6_workPair_187 (fun v_ w1_ hp => ?_)
        obtain ⟨rfl, rfl⟩ := hp
        show Z X (0) (0) (wkw E r (rs 0) (mwv S h ab va an) ++ sw E rs SS) [(0, .ref (r 0)), (1, .int (nI 33)), (2, .int (nI a)), (3, .int (nI b)), (4, .int (nI i)), (5, .long ((gV V (nI a)).1)), (7, .long ((gV V (nI b)).1))] 190 [.int (bI (hldB 33 ((gV V (nI a)).1) ((gV V (nI b)).1)))]
        refine z_if_eq (pc := 190) (tgt := 197) F dX6_workPair_190 (by decide) (fun c190 => ?_) (fun c190 => ?_)
        · replace c190 := bI_f c190
          refine z_lconst (pc := 197) (v := 0) F dX6_workPair_197 (by decide) ?_
          exact z_lret (pc := 198) F hR dX6_workPair_198 (Nat.le_of_ble_eq_true rfl) (Nat.le_of_ble_eq_true rfl) ⟨an, by rw [hE]; first | rfl | simp_all [prV], rfl, fun _ _ => rfl, fun h0 => by rw [h0, hE]; first | rfl | simp_all [prV, bI]⟩
        · replace c190 := bI_t c190
          refine z_lconst (pc := 193) (v := 1) F dX6_workPair_193 (by decide) ?_
          refine z_goto (pc := 194) (tgt := 198) F dX6_workPair_194 (by decide) ?_
          exact z_lret (pc := 198) F hR dX6_workPair_198 (Nat.le_of_ble_eq_true rfl) (Nat.le_of_ble_eq_true rfl) ⟨an, by rw [hE]; first | rfl | simp_all [prV], rfl, fun _ _ => rfl, fun h0 => by rw [h0, hE]; first | rfl | simp_all [prV, bI]⟩
    · replace c29 := bI_t c29
      have hE := evP_t (c := c) (x := (gV V (nI a))) (y := (gV V (nI b))) (by first | exact Or.inl c20 | exact Or.inr c29)
      refine z_aload_n (pc := 32) F dX6_workPair_32 rfl 0 rfl ?_
      refine z_iload (pc := 33) F dX6_workPair_33 4 rfl ?_
      refine z_callVW (pc := 35) (q0 := 0) (ci := 6) (rest := []) F (c_X6_missing l E r rs S SS h ab va an i hi) 1 ww_Worker_78 (by decide +kernel) rfl ⟨Nat.le_of_ble_eq_true rfl, Nat.le_of_ble_eq_true rfl⟩ ⟨Nat.le_of_ble_eq_true rfl, Nat.le_of_ble_eq_true rfl⟩ rfl rfl rfl rfl (Nat.le_of_ble_eq_true rfl) dX6_workPair_35 (fun v_ w1_ hp => ?_)
      obtain ⟨rfl, rfl⟩ := hp
      show Z X (0) (0) (wkw E r (rs 0) (mwv S h ab va (upd an i 1)) ++ sw E rs SS) [(0, .ref (r 0)), (1, .int (nI c)), (2, .int (nI a)), (3, .int (nI b)), (4, .int (nI i))] 38 [.long 0]
      exact z_lret (pc := 38) F hR dX6_workPair_38 (Nat.le_of_ble_eq_true rfl) (Nat.le_of_ble_eq_true rfl) ⟨_, by rw [hE], rfl, fun k hk => pk_un (by omega), fun _ => by rw [pk_us, hE]; rfl⟩
set_option maxHeartbeats 4000000 in
set_option maxRecDepth 100000 in
theorem c_X6_work (l : Launch) (E : zE) (r : Nat → Nat) (rs : Nat → Nat) (rp : Nat → Nat) (S : zS) (SS : zS) (SP : zS) (h : Int64) (ab : Int32) (va : Nat → Int64) (an : Nat → Int32) (m : Nat) (ro : Nat) (G : List zNd) (hs : stOk SS m) (hrm : ro < m) (hrt : ¬ za SS 1 ro = 0) (hgl : zi SP 0 = nI G.length) (hg8 : G.length ≤ 80) (hho : hoN G (za SP 1) (za SP 2) (za SP 3)) (hnk : ∀ i x, G[i]? = some x → nOk i x) : Ct l yX6_work cX6_work 6 (none) ({ frames := 3, cells := 0, slots := 0, locals := 130 } : Room) E (plw E rp SP ++ wkw E r (rs 0) (mwv S h ab va an) ++ sw E rs SS) [.ref (r 0), .ref (rp 0), .int (nI ro)] (fun v_ w_ => ∃ va' : Nat → Int64, ∃ an' : Nat → Int32, v_ = none ∧ w_ = plw E rp SP ++ wkw E r (rs 0) (mwv S ((evL SS ro G ([], 0)).2) (bI ((evL SS ro G ([], 0)).1.any (·.2))) va' an') ++ sw E rs SS ∧ (hoV (evL SS ro G ([], 0)).1 va' an')) := by
  refine Ct.of (by decide) (Nat.le_of_ble_eq_true rfl) (lv := [(0, .ref (r 0)), (1, .ref (rp 0)), (2, .int (nI ro))]) rfl ?_
  intro X F hR
  have F : zF X l ({ frames := 3, cells := 0, slots := 0, locals := 130 } : Room) E cX6_work 6 "LiveQueries$Worker" := F
  have hm6 := hs.1
  refine z_aload_n (pc := 0) F dX6_work_0 rfl 0 rfl ?_
  refine z_lconst (pc := 1) (v := 0) F dX6_work_1 (by decide) ?_
  refine z_put (pc := 2) (ws' := plw E rp SP ++ wkw E r (rs 0) (mwv S 0 ab va an) ++ sw E rs SS) F iX6 tyX6 tyX6_ok nmX6 4 rfl rfl 3 (by decide) tw_168 rfl rfl rfl (Nat.le_of_ble_eq_true rfl) dX6_work_2 rfl ?_
  refine z_aload_n (pc := 5) F dX6_work_5 rfl 0 rfl ?_
  refine z_iconst (pc := 6) (v := 0) F dX6_work_6 (by decide) ?_
  refine z_put (pc := 7) (ws' := plw E rp SP ++ wkw E r (rs 0) (mwv S 0 0 va an) ++ sw E rs SS) F iX6 tyX6 tyX6_ok nmX6 4 rfl rfl 4 (by decide) tw_169 rfl rfl rfl (Nat.le_of_ble_eq_true rfl) dX6_work_7 rfl ?_
  refine z_iconst (pc := 10) (v := 0) F dX6_work_10 (by decide) ?_
  refine z_istore_n (pc := 11) (lv' := [(0, .ref (r 0)), (1, .ref (rp 0)), (2, .int (nI ro)), (3, .int 0)]) F dX6_work_11 rfl (by decide) [1, 2, 3, 0] rfl ?_
  have L12 : ∀ (N : Nat) (i : Nat) (va' : Nat → Int64) (an' : Nat → Int32), (G.length - i) < N → (i ≤ G.length) → (hoV (evL SS ro (G.take i) ([], 0)).1 va' an') → Z X (0) (0) (plw E rp SP ++ wkw E r (rs 0) (mwv S ((evL SS ro (G.take i) ([], 0)).2) (bI ((evL SS ro (G.take i) ([], 0)).1.any (·.2))) va' an') ++ sw E rs SS) [(0, .ref (r 0)), (1, .ref (rp 0)), (2, .int (nI ro)), (3, .int (nI i))] 12 [] := by
    intro N
    induction N with
    | zero => intro i va' an' hN; exact absurd hN (Nat.not_lt_zero _)
    | succ N ih12 =>
      intro i va' an' hN hi hV
      refine z_iload_n (pc := 12) F dX6_work_12 rfl 3 rfl ?_
      refine z_aload_n (pc := 13) F dX6_work_13 rfl 1 rfl ?_
      refine z_getN (pc := 14) (v := .int (zi SP 0)) F iX2 0 rfl rfl 3 (by decide) nw_199 rfl dX6_work_14 ?_
      rw [show (zi SP 0) = nI G.length from hgl]
      refine z_icmp_ge (pc := 17) (tgt := 234) F dX6_work_17 (by decide) (fun c17 => ?_) (fun c17 => ?_)
      · have hie : i = G.length := Nat.le_antisymm hi (gI (by omega) (by omega) c17)
        subst hie
        rw [List.take_length] at hV
        rw [List.take_length]
        exact z_vret (pc := 234) F hR dX6_work_234 (Nat.le_of_ble_eq_true rfl) (Nat.le_of_ble_eq_true rfl) ⟨va', an', rfl, rfl, hV⟩
      · have hil := ngI (by omega) (by omega) c17
        obtain ⟨⟨c, a, b⟩, hx⟩ : ∃ x, G[i]? = some x := ⟨G[i], List.getElem?_eq_getElem hil⟩
        have hGx := hho i _ hx
        have hNx := hnk i _ hx
        have hVl : (evL SS ro (G.take i) ([], 0)).1.length = i := by rw [evL_len, List.length_take]; simp; omega
        refine z_iload_n (pc := 20) F dX6_work_20 rfl 3 rfl ?_
        refine z_bipush (pc := 21) (v := 80) F dX6_work_21 (by decide) ?_
        refine z_icmp_ge (pc := 23) (tgt := 234) F dX6_work_23 (by decide) (fun c23 => absurd c23 (fun h => absurd (gI (a := 80) (by decide) (by omega) h) (by omega))) (fun c23 => ?_)
        have J203 : ∀ (y : Int64 × Bool) (h3 : Int64) (va3 : Nat → Int64) (an3 : Nat → Int32), (evL SS ro (G.take (i + 1)) ([], 0) = ((evL SS ro (G.take i) ([], 0)).1 ++ [y], h3)) → (hoV ((evL SS ro (G.take i) ([], 0)).1 ++ [y]) va3 an3) → Z X (0) (0) (plw E rp SP ++ wkw E r (rs 0) (mwv S h3 (bI ((evL SS ro (G.take i) ([], 0)).1.any (·.2))) va3 an3) ++ sw E rs SS) [(0, .ref (r 0)), (1, .ref (rp 0)), (2, .int (nI ro)), (3, .int (nI i))] 203 [] := by
          intro y h3 va3 an3 hy hV3
          have hyi := hV3 i y (by rw [List.getElem?_append_right (by omega), hVl, Nat.sub_self]; rfl)
          refine z_aload_n (pc := 203) F dX6_work_203 rfl 0 rfl ?_
          refine z_aload_n (pc := 204) F dX6_work_204 rfl 0 rfl ?_
          refine z_get (pc := 205) (v := .int (bI ((evL SS ro (G.take i) ([], 0)).1.any (·.2)))) F iX6 4 rfl rfl 4 (by decide) tw_169 rfl dX6_work_205 ?_
          refine z_if_ne (pc := 208) (tgt := 220) F dX6_work_208 (by decide) (fun c208 => ?_) (fun c208 => ?_)
          · replace c208 := bI_t c208
            refine z_iconst (pc := 220) (v := 1) F dX6_work_220 (by decide) ?_
            refine z_goto (pc := 221) (tgt := 225) F dX6_work_221 (by decide) ?_
            refine z_put (pc := 225) (ws' := plw E rp SP ++ wkw E r (rs 0) (mwv S h3 1 va3 an3) ++ sw E rs SS) F iX6 tyX6 tyX6_ok nmX6 4 rfl rfl 4 (by decide) tw_169 rfl rfl rfl (Nat.le_of_ble_eq_true rfl) dX6_work_225 rfl ?_
            refine z_iinc (pc := 228) (v := nI (i + 1)) (lv' := [(0, .ref (r 0)), (1, .ref (rp 0)), (2, .int (nI ro)), (3, .int (nI (i + 1)))]) F (j := 3) dX6_work_228 rfl (nI_1 _) (by decide) [1, 2, 3, 0] rfl ?_
            refine z_goto (pc := 231) (tgt := 12) F dX6_work_231 (by decide) ?_
            have hih := ih12 (i + 1) va3 an3 (by omega) (by omega) (by rw [hy]; exact hV3); rw [hy] at hih; dsimp only at hih; rw [any_add, c208, Bool.true_or] at hih; exact hih
          · replace c208 := bI_f c208
            refine z_aload_n (pc := 211) F dX6_work_211 rfl 0 rfl ?_
            refine z_get (pc := 212) (v := .ref (r 2)) F iX6 4 rfl rfl 2 (by decide) tw_167 rfl dX6_work_212 ?_
            refine z_iload_n (pc := 215) F dX6_work_215 rfl 3 rfl ?_
            refine z_zaldN (pc := 216) (f := an3) F 6 2 rfl rfl i rfl (by omega) (by decide) dX6_work_216 ?_
            rw [show ((an3) i) = bI y.2 from hyi.2]
            refine z_if_eq (pc := 217) (tgt := 224) F dX6_work_217 (by decide) (fun c217 => ?_) (fun c217 => ?_)
            · replace c217 := bI_f c217
              refine z_iconst (pc := 224) (v := 0) F dX6_work_224 (by decide) ?_
              refine z_put (pc := 225) (ws' := plw E rp SP ++ wkw E r (rs 0) (mwv S h3 0 va3 an3) ++ sw E rs SS) F iX6 tyX6 tyX6_ok nmX6 4 rfl rfl 4 (by decide) tw_169 rfl rfl rfl (Nat.le_of_ble_eq_true rfl) dX6_work_225 rfl ?_
              refine z_iinc (pc := 228) (v := nI (i + 1)) (lv' := [(0, .ref (r 0)), (1, .ref (rp 0)), (2, .int (nI ro)), (3, .int (nI (i + 1)))]) F (j := 3) dX6_work_228 rfl (nI_1 _) (by decide) [1, 2, 3, 0] rfl ?_
              refine z_goto (pc := 231) (tgt := 12) F dX6_work_231 (by decide) ?_
              have hih := ih12 (i + 1) va3 an3 (by omega) (by omega) (by rw [hy]; exact hV3); rw [hy] at hih; dsimp only at hih; rw [any_add, c208, c217, Bool.false_or] at hih; exact hih
            · replace c217 := bI_t c217
              refine z_iconst (pc := 220) (v := 1) F dX6_work_220 (by decide) ?_
              refine z_goto (pc := 221) (tgt := 225) F dX6_work_221 (by decide) ?_
              refine z_put (pc := 225) (ws' := plw E rp SP ++ wkw E r (rs 0) (mwv S h3 1 va3 an3) ++ sw E rs SS) F iX6 tyX6 tyX6_ok nmX6 4 rfl rfl 4 (by decide) tw_169 rfl rfl rfl (Nat.le_of_ble_eq_true rfl) dX6_work_225 rfl ?_
              refine z_iinc (pc := 228) (v := nI (i + 1)) (lv' := [(0, .ref (r 0)), (1, .ref (rp 0)), (2, .int (nI ro)), (3, .int (nI (i + 1)))]) F (j := 3) dX6_work_228 rfl (nI_1 _) (by decide) [1, 2, 3, 0] rfl ?_
              refine z_goto (pc := 231) (tgt := 12) F dX6_work_231 (by decide) ?_
              have hih := ih12 (i + 1) va3 an3 (by omega) (by omega) (by rw [hy]; exact hV3); rw [hy] at hih; dsimp only at hih; rw [any_add, c208, c217, Bool.false_or] at hih; exact hih
        rcases hNx with hc | ⟨hc, k, hk, ha⟩ | ⟨hc, k, j, hk, hj, ha, hb⟩ | ⟨hc, a1, b1, ha1, hb1, ha, hb⟩
        · dsimp only at hc; subst hc
          refine z_aload_n (pc := 26) F dX6_work_26 rfl 1 rfl ?_
          refine z_getN (pc := 27) (v := .ref (rp 2)) F iX2 0 rfl rfl 1 (by decide) nw_195 rfl dX6_work_27 ?_
          refine z_iload_n (pc := 30) F dX6_work_30 rfl 3 rfl ?_
          refine z_ialdN (pc := 31) (f := za SP 2) F 2 0 rfl rfl i rfl (by omega) (by decide) dX6_work_31 ?_
          rw [show (za SP 2 i) = a from hGx.2.1]
          refine z_istore (pc := 32) (lv' := [(0, .ref (r 0)), (1, .ref (rp 0)), (2, .int (nI ro)), (3, .int (nI i)), (4, .int a)]) F dX6_work_32 (by decide) [1, 2, 3, 4, 0] rfl ?_
          refine z_aload_n (pc := 34) F dX6_work_34 rfl 1 rfl ?_
          refine z_getN (pc := 35) (v := .ref (rp 3)) F iX2 0 rfl rfl 2 (by decide) nw_197 rfl dX6_work_35 ?_
          refine z_iload_n (pc := 38) F dX6_work_38 rfl 3 rfl ?_
          refine z_ialdN (pc := 39) (f := za SP 3) F 3 0 rfl rfl i rfl (by omega) (by decide) dX6_work_39 ?_
          rw [show (za SP 3 i) = b from hGx.2.2]
          refine z_istore (pc := 40) (lv' := [(0, .ref (r 0)), (1, .ref (rp 0)), (2, .int (nI ro)), (3, .int (nI i)), (4, .int a), (5, .int b)]) F dX6_work_40 (by decide) [1, 2, 3, 4, 5, 0] rfl ?_
          refine z_aload_n (pc := 42) F dX6_work_42 rfl 0 rfl ?_
          refine z_get (pc := 43) (v := .ref (r 2)) F iX6 4 rfl rfl 2 (by decide) tw_167 rfl dX6_work_43 ?_
          refine z_iload_n (pc := 46) F dX6_work_46 rfl 3 rfl ?_
          refine z_iconst (pc := 47) (v := 0) F dX6_work_47 (by decide) ?_
          refine z_zastN (pc := 48) (ws' := plw E rp SP ++ wkw E r (rs 0) (mwv S ((evL SS ro (G.take i) ([], 0)).2) (bI ((evL SS ro (G.take i) ([], 0)).1.any (·.2))) va' (upd an' i 0)) ++ sw E rs SS) (f := an') F 6 2 rfl rfl i rfl (by omega) (by decide) rfl dX6_work_48 rfl ?_
          refine z_aload_n (pc := 49) F dX6_work_49 rfl 1 rfl ?_
          refine z_getN (pc := 50) (v := .ref (rp 1)) F iX2 0 rfl rfl 0 (by decide) nw_193 rfl dX6_work_50 ?_
          refine z_iload_n (pc := 53) F dX6_work_53 rfl 3 rfl ?_
          refine z_caldN (pc := 54) (f := za SP 1) F 1 3 rfl rfl i rfl (by omega) (by decide) dX6_work_54 ?_
          rw [show (za SP 1 i) = nI 48 from hGx.1]
          · refine z_lookup (off := 65) (tgt := 120) (pc := 55) F dX6_work_55 (by decide) (by decide) (by decide) ?_
            refine z_aload_n (pc := 120) F dX6_work_120 rfl 0 rfl ?_
            refine z_get (pc := 121) (v := .ref (r 1)) F iX6 4 rfl rfl 1 (by decide) tw_166 rfl dX6_work_121 ?_
            refine z_iload_n (pc := 124) F dX6_work_124 rfl 3 rfl ?_
            refine z_iload (pc := 125) F dX6_work_125 4 rfl ?_
            refine z_i2l (pc := 127) F dX6_work_127 ?_
            refine z_lastN (pc := 128) (ws' := plw E rp SP ++ wkw E r (rs 0) (mwv S ((evL SS ro (G.take i) ([], 0)).2) (bI ((evL SS ro (G.take i) ([], 0)).1.any (·.2))) (vp_updL va' i (a.toInt64)) (upd an' i 0)) ++ sw E rs SS) (f := va') F 5 1 rfl rfl i rfl (by omega) (by decide) dX6_work_128 rfl ?_
            refine z_goto (pc := 129) (tgt := 203) F dX6_work_129 (by decide) ?_
            refine z_locals (lv' := [(0, .ref (r 0)), (1, .ref (rp 0)), (2, .int (nI ro)), (3, .int (nI i))]) [0, 1, 2, 3] rfl ?_; exact J203 (a.toInt64, false) _ _ _ ((evL_take SS ro hx ([], 0)).trans (evS_of evN_48)) (hoV_add hV hVl.symm rfl upd_lt (by rw [pk_us]; rfl))
        · dsimp only at hc ha; subst ha
          refine z_aload_n (pc := 26) F dX6_work_26 rfl 1 rfl ?_
          refine z_getN (pc := 27) (v := .ref (rp 2)) F iX2 0 rfl rfl 1 (by decide) nw_195 rfl dX6_work_27 ?_
          refine z_iload_n (pc := 30) F dX6_work_30 rfl 3 rfl ?_
          refine z_ialdN (pc := 31) (f := za SP 2) F 2 0 rfl rfl i rfl (by omega) (by decide) dX6_work_31 ?_
          rw [show (za SP 2 i) = nI k from hGx.2.1]
          refine z_istore (pc := 32) (lv' := [(0, .ref (r 0)), (1, .ref (rp 0)), (2, .int (nI ro)), (3, .int (nI i)), (4, .int (nI k))]) F dX6_work_32 (by decide) [1, 2, 3, 4, 0] rfl ?_
          refine z_aload_n (pc := 34) F dX6_work_34 rfl 1 rfl ?_
          refine z_getN (pc := 35) (v := .ref (rp 3)) F iX2 0 rfl rfl 2 (by decide) nw_197 rfl dX6_work_35 ?_
          refine z_iload_n (pc := 38) F dX6_work_38 rfl 3 rfl ?_
          refine z_ialdN (pc := 39) (f := za SP 3) F 3 0 rfl rfl i rfl (by omega) (by decide) dX6_work_39 ?_
          rw [show (za SP 3 i) = b from hGx.2.2]
          refine z_istore (pc := 40) (lv' := [(0, .ref (r 0)), (1, .ref (rp 0)), (2, .int (nI ro)), (3, .int (nI i)), (4, .int (nI k)), (5, .int b)]) F dX6_work_40 (by decide) [1, 2, 3, 4, 5, 0] rfl ?_
          refine z_aload_n (pc := 42) F dX6_work_42 rfl 0 rfl ?_
          refine z_get (pc := 43) (v := .ref (r 2)) F iX6 4 rfl rfl 2 (by decide) tw_167 rfl dX6_work_43 ?_
          refine z_iload_n (pc := 46) F dX6_work_46 rfl 3 rfl ?_
          refine z_iconst (pc := 47) (v := 0) F dX6_work_47 (by decide) ?_
          refine z_zastN (pc := 48) (ws' := plw E rp SP ++ wkw E r (rs 0) (mwv S ((evL SS ro (G.take i) ([], 0)).2) (bI ((evL SS ro (G.take i) ([], 0)).1.any (·.2))) va' (upd an' i 0)) ++ sw E rs SS) (f := an') F 6 2 rfl rfl i rfl (by omega) (by decide) rfl dX6_work_48 rfl ?_
          refine z_aload_n (pc := 49) F dX6_work_49 rfl 1 rfl ?_
          refine z_getN (pc := 50) (v := .ref (rp 1)) F iX2 0 rfl rfl 0 (by decide) nw_193 rfl dX6_work_50 ?_
          refine z_iload_n (pc := 53) F dX6_work_53 rfl 3 rfl ?_
          refine z_caldN (pc := 54) (f := za SP 1) F 1 3 rfl rfl i rfl (by omega) (by decide) dX6_work_54 ?_
          rw [show (za SP 1 i) = nI c from hGx.1]
          rcases hc with rfl | rfl | rfl | rfl | rfl
          · refine z_lookup (off := 77) (tgt := 132) (pc := 55) F dX6_work_55 (by decide) (by decide) (by decide) ?_
            refine z_aload_n (pc := 132) F dX6_work_132 rfl 0 rfl ?_
            refine z_get (pc := 133) (v := .ref (r 1)) F iX6 4 rfl rfl 1 (by decide) tw_166 rfl dX6_work_133 ?_
            refine z_iload_n (pc := 136) F dX6_work_136 rfl 3 rfl ?_
            refine z_aload_n (pc := 137) F dX6_work_137 rfl 0 rfl ?_
            refine z_aload_n (pc := 138) F dX6_work_138 rfl 1 rfl ?_
            refine z_getN (pc := 139) (v := .ref (rp 1)) F iX2 0 rfl rfl 0 (by decide) nw_193 rfl dX6_work_139 ?_
            refine z_iload_n (pc := 142) F dX6_work_142 rfl 3 rfl ?_
            refine z_caldN (pc := 143) (f := za SP 1) F 1 3 rfl rfl i rfl (by omega) (by decide) dX6_work_143 ?_
            rw [show (za SP 1 i) = nI 97 from hGx.1]
            refine z_aload_n (pc := 144) F dX6_work_144 rfl 0 rfl ?_
            refine z_iload_n (pc := 145) F dX6_work_145 rfl 2 rfl ?_
            refine z_iload (pc := 146) F dX6_work_146 4 rfl ?_
            refine z_callV (pc := 148) (q0 := 4) (ci := 6) (wr := plw E rp SP) (rest := [.int (nI 97), .ref (r 0), .int (nI i), .ref (r 1)]) F (c_X6_walk l E r rs S SS ((evL SS ro (G.take i) ([], 0)).2) (bI ((evL SS ro (G.take i) ([], 0)).1.any (·.2))) va' (upd an' i 0) m ro k hs hrm hrt hk) 2 [4, 5, 6, 7, 8, 9, 10, 11, 12, 13] [0, 1, 2, 3] rfl rfl ⟨by decide, by decide, by decide⟩ ww_Worker_48 (by decide +kernel) rfl ⟨Nat.le_of_ble_eq_true rfl, Nat.le_of_ble_eq_true rfl⟩ ⟨Nat.le_of_ble_eq_true rfl, Nat.le_of_ble_eq_true rfl⟩ rfl rfl rfl rfl (Nat.le_of_ble_eq_true rfl) dX6_work_148 (fun v_ w1_ hp => ?_)
            obtain ⟨rfl, rfl⟩ := hp
            show Z X (0) (0) (plw E rp SP ++ wkw E r (rs 0) (mwv S ((wlk SS k (some ro) ((evL SS ro (G.take i) ([], 0)).2)).2) (bI ((evL SS ro (G.take i) ([], 0)).1.any (·.2))) va' (upd an' i 0)) ++ sw E rs SS) [(0, .ref (r 0)), (1, .ref (rp 0)), (2, .int (nI ro)), (3, .int (nI i)), (4, .int (nI k)), (5, .int b)] 151 [.int (oI (wlk SS k (some ro) ((evL SS ro (G.take i) ([], 0)).2)).1), .int (nI 97), .ref (r 0), .int (nI i), .ref (r 1)]
            obtain ⟨w, hw⟩ : ∃ w, w = wlk SS k (some ro) (evL SS ro (G.take i) ([], 0)).2 := ⟨_, rfl⟩
            rw [← hw]
            have hok : oOk SS m w.1 := by rw [hw]; exact wlk_ok hs _ _ _ (oOk_i hrm hrt)
            obtain ⟨wo, wh⟩ := w; rcases wo with _ | o
            · skip
              show Z X (0) (0) (plw E rp SP ++ wkw E r (rs 0) (mwv S wh (bI ((evL SS ro (G.take i) ([], 0)).1.any (·.2))) va' (upd an' i 0)) ++ sw E rs SS) [(0, .ref (r 0)), (1, .ref (rp 0)), (2, .int (nI ro)), (3, .int (nI i)), (4, .int (nI k)), (5, .int b)] 151 [.int (-1), .int (nI 97), .ref (r 0), .int (nI i), .ref (r 1)]
              refine z_iload_n (pc := 151) F dX6_work_151 rfl 3 rfl ?_
              refine z_callV (pc := 152) (q0 := 4) (ci := 6) (wr := plw E rp SP) (rest := [.int (nI i), .ref (r 1)]) F (c_X6_workField_n l E r rs S SS wh (bI ((evL SS ro (G.take i) ([], 0)).1.any (·.2))) va' (upd an' i 0) 97 i (by omega)) 3 [4, 5, 6, 7, 8, 9, 10, 11, 12, 13] [0, 1, 2, 3] rfl rfl ⟨by decide, by decide, by decide⟩ ww_Worker_52 (by decide +kernel) rfl ⟨Nat.le_of_ble_eq_true rfl, Nat.le_of_ble_eq_true rfl⟩ ⟨Nat.le_of_ble_eq_true rfl, Nat.le_of_ble_eq_true rfl⟩ rfl rfl rfl rfl (Nat.le_of_ble_eq_true rfl) dX6_work_152 (fun v_ w1_ hp => ?_)
              obtain ⟨rfl, rfl⟩ := hp
              show Z X (0) (0) (plw E rp SP ++ wkw E r (rs 0) (mwv S wh (bI ((evL SS ro (G.take i) ([], 0)).1.any (·.2))) va' (upd (upd an' i 0) i 1)) ++ sw E rs SS) [(0, .ref (r 0)), (1, .ref (rp 0)), (2, .int (nI ro)), (3, .int (nI i)), (4, .int (nI k)), (5, .int b)] 155 [.long 0, .int (nI i), .ref (r 1)]
              refine z_lastN (pc := 155) (ws' := plw E rp SP ++ wkw E r (rs 0) (mwv S wh (bI ((evL SS ro (G.take i) ([], 0)).1.any (·.2))) (vp_updL va' i 0) (upd (upd an' i 0) i 1)) ++ sw E rs SS) (f := va') F 5 1 rfl rfl i rfl (by omega) (by decide) dX6_work_155 rfl ?_
              refine z_goto (pc := 156) (tgt := 203) F dX6_work_156 (by decide) ?_
              refine z_locals (lv' := [(0, .ref (r 0)), (1, .ref (rp 0)), (2, .int (nI ro)), (3, .int (nI i))]) [0, 1, 2, 3] rfl ?_; exact J203 (0, true) _ _ _ ((evL_take SS ro hx ([], 0)).trans (evS_of (by rw [evN_f (by decide) (by omega), ← hw]; rfl))) (hoV_add hV hVl.symm rfl upd_lt2 (by rw [pk_us]; rfl))
            · have hoo := oOk_s hok
              show Z X (0) (0) (plw E rp SP ++ wkw E r (rs 0) (mwv S wh (bI ((evL SS ro (G.take i) ([], 0)).1.any (·.2))) va' (upd an' i 0)) ++ sw E rs SS) [(0, .ref (r 0)), (1, .ref (rp 0)), (2, .int (nI ro)), (3, .int (nI i)), (4, .int (nI k)), (5, .int b)] 151 [.int (nI o), .int (nI 97), .ref (r 0), .int (nI i), .ref (r 1)]
              refine z_iload_n (pc := 151) F dX6_work_151 rfl 3 rfl ?_
              refine z_callV (pc := 152) (q0 := 4) (ci := 6) (wr := plw E rp SP) (rest := [.int (nI i), .ref (r 1)]) F (c_X6_workField_s l E r rs S SS wh (bI ((evL SS ro (G.take i) ([], 0)).1.any (·.2))) va' (upd an' i 0) m 97 o i hs (by decide) hoo.1 hoo.2) 3 [4, 5, 6, 7, 8, 9, 10, 11, 12, 13] [0, 1, 2, 3] rfl rfl ⟨by decide, by decide, by decide⟩ ww_Worker_52 (by decide +kernel) rfl ⟨Nat.le_of_ble_eq_true rfl, Nat.le_of_ble_eq_true rfl⟩ ⟨Nat.le_of_ble_eq_true rfl, Nat.le_of_ble_eq_true rfl⟩ rfl rfl rfl rfl (Nat.le_of_ble_eq_true rfl) dX6_work_152 (fun v_ w1_ hp => ?_)
              obtain ⟨rfl, rfl⟩ := hp
              show Z X (0) (0) (plw E rp SP ++ wkw E r (rs 0) (mwv S (note wh o) (bI ((evL SS ro (G.take i) ([], 0)).1.any (·.2))) va' (upd an' i 0)) ++ sw E rs SS) [(0, .ref (r 0)), (1, .ref (rp 0)), (2, .int (nI ro)), (3, .int (nI i)), (4, .int (nI k)), (5, .int b)] 155 [.long (fldV SS 97 o), .int (nI i), .ref (r 1)]
              refine z_lastN (pc := 155) (ws' := plw E rp SP ++ wkw E r (rs 0) (mwv S (note wh o) (bI ((evL SS ro (G.take i) ([], 0)).1.any (·.2))) (vp_updL va' i (fldV SS 97 o)) (upd an' i 0)) ++ sw E rs SS) (f := va') F 5 1 rfl rfl i rfl (by omega) (by decide) dX6_work_155 rfl ?_
              refine z_goto (pc := 156) (tgt := 203) F dX6_work_156 (by decide) ?_
              refine z_locals (lv' := [(0, .ref (r 0)), (1, .ref (rp 0)), (2, .int (nI ro)), (3, .int (nI i))]) [0, 1, 2, 3] rfl ?_; exact J203 (fldV SS 97 o, false) _ _ _ ((evL_take SS ro hx ([], 0)).trans (evS_of (by rw [evN_f (by decide) (by omega), ← hw]; rfl))) (hoV_add hV hVl.symm rfl upd_lt (by rw [pk_us]; rfl))
          · refine z_lookup (off := 77) (tgt := 132) (pc := 55) F dX6_work_55 (by decide) (by decide) (by decide) ?_
            refine z_aload_n (pc := 132) F dX6_work_132 rfl 0 rfl ?_
            refine z_get (pc := 133) (v := .ref (r 1)) F iX6 4 rfl rfl 1 (by decide) tw_166 rfl dX6_work_133 ?_
            refine z_iload_n (pc := 136) F dX6_work_136 rfl 3 rfl ?_
            refine z_aload_n (pc := 137) F dX6_work_137 rfl 0 rfl ?_
            refine z_aload_n (pc := 138) F dX6_work_138 rfl 1 rfl ?_
            refine z_getN (pc := 139) (v := .ref (rp 1)) F iX2 0 rfl rfl 0 (by decide) nw_193 rfl dX6_work_139 ?_
            refine z_iload_n (pc := 142) F dX6_work_142 rfl 3 rfl ?_
            refine z_caldN (pc := 143) (f := za SP 1) F 1 3 rfl rfl i rfl (by omega) (by decide) dX6_work_143 ?_
            rw [show (za SP 1 i) = nI 98 from hGx.1]
            refine z_aload_n (pc := 144) F dX6_work_144 rfl 0 rfl ?_
            refine z_iload_n (pc := 145) F dX6_work_145 rfl 2 rfl ?_
            refine z_iload (pc := 146) F dX6_work_146 4 rfl ?_
            refine z_callV (pc := 148) (q0 := 4) (ci := 6) (wr := plw E rp SP) (rest := [.int (nI 98), .ref (r 0), .int (nI i), .ref (r 1)]) F (c_X6_walk l E r rs S SS ((evL SS ro (G.take i) ([], 0)).2) (bI ((evL SS ro (G.take i) ([], 0)).1.any (·.2))) va' (upd an' i 0) m ro k hs hrm hrt hk) 2 [4, 5, 6, 7, 8, 9, 10, 11, 12, 13] [0, 1, 2, 3] rfl rfl ⟨by decide, by decide, by decide⟩ ww_Worker_48 (by decide +kernel) rfl ⟨Nat.le_of_ble_eq_true rfl, Nat.le_of_ble_eq_true rfl⟩ ⟨Nat.le_of_ble_eq_true rfl, Nat.le_of_ble_eq_true rfl⟩ rfl rfl rfl rfl (Nat.le_of_ble_eq_true rfl) dX6_work_148 (fun v_ w1_ hp => ?_)
            obtain ⟨rfl, rfl⟩ := hp
            show Z X (0) (0) (plw E rp SP ++ wkw E r (rs 0) (mwv S ((wlk SS k (some ro) ((evL SS ro (G.take i) ([], 0)).2)).2) (bI ((evL SS ro (G.take i) ([], 0)).1.any (·.2))) va' (upd an' i 0)) ++ sw E rs SS) [(0, .ref (r 0)), (1, .ref (rp 0)), (2, .int (nI ro)), (3, .int (nI i)), (4, .int (nI k)), (5, .int b)] 151 [.int (oI (wlk SS k (some ro) ((evL SS ro (G.take i) ([], 0)).2)).1), .int (nI 98), .ref (r 0), .int (nI i), .ref (r 1)]
            obtain ⟨w, hw⟩ : ∃ w, w = wlk SS k (some ro) (evL SS ro (G.take i) ([], 0)).2 := ⟨_, rfl⟩
            rw [← hw]
            have hok : oOk SS m w.1 := by rw [hw]; exact wlk_ok hs _ _ _ (oOk_i hrm hrt)
            obtain ⟨wo, wh⟩ := w; rcases wo with _ | o
            · skip
              show Z X (0) (0) (plw E rp SP ++ wkw E r (rs 0) (mwv S wh (bI ((evL SS ro (G.take i) ([], 0)).1.any (·.2))) va' (upd an' i 0)) ++ sw E rs SS) [(0, .ref (r 0)), (1, .ref (rp 0)), (2, .int (nI ro)), (3, .int (nI i)), (4, .int (nI k)), (5, .int b)] 151 [.int (-1), .int (nI 98), .ref (r 0), .int (nI i), .ref (r 1)]
              refine z_iload_n (pc := 151) F dX6_work_151 rfl 3 rfl ?_
              refine z_callV (pc := 152) (q0 := 4) (ci := 6) (wr := plw E rp SP) (rest := [.int (nI i), .ref (r 1)]) F (c_X6_workField_n l E r rs S SS wh (bI ((evL SS ro (G.take i) ([], 0)).1.any (·.2))) va' (upd an' i 0) 98 i (by omega)) 3 [4, 5, 6, 7, 8, 9, 10, 11, 12, 13] [0, 1, 2, 3] rfl rfl ⟨by decide, by decide, by decide⟩ ww_Worker_52 (by decide +kernel) rfl ⟨Nat.le_of_ble_eq_true rfl, Nat.le_of_ble_eq_true rfl⟩ ⟨Nat.le_of_ble_eq_true rfl, Nat.le_of_ble_eq_true rfl⟩ rfl rfl rfl rfl (Nat.le_of_ble_eq_true rfl) dX6_work_152 (fun v_ w1_ hp => ?_)
              obtain ⟨rfl, rfl⟩ := hp
              show Z X (0) (0) (plw E rp SP ++ wkw E r (rs 0) (mwv S wh (bI ((evL SS ro (G.take i) ([], 0)).1.any (·.2))) va' (upd (upd an' i 0) i 1)) ++ sw E rs SS) [(0, .ref (r 0)), (1, .ref (rp 0)), (2, .int (nI ro)), (3, .int (nI i)), (4, .int (nI k)), (5, .int b)] 155 [.long 0, .int (nI i), .ref (r 1)]
              refine z_lastN (pc := 155) (ws' := plw E rp SP ++ wkw E r (rs 0) (mwv S wh (bI ((evL SS ro (G.take i) ([], 0)).1.any (·.2))) (vp_updL va' i 0) (upd (upd an' i 0) i 1)) ++ sw E rs SS) (f := va') F 5 1 rfl rfl i rfl (by omega) (by decide) dX6_work_155 rfl ?_
              refine z_goto (pc := 156) (tgt := 203) F dX6_work_156 (by decide) ?_
              refine z_locals (lv' := [(0, .ref (r 0)), (1, .ref (rp 0)), (2, .int (nI ro)), (3, .int (nI i))]) [0, 1, 2, 3] rfl ?_; exact J203 (0, true) _ _ _ ((evL_take SS ro hx ([], 0)).trans (evS_of (by rw [evN_f (by decide) (by omega), ← hw]; rfl))) (hoV_add hV hVl.symm rfl upd_lt2 (by rw [pk_us]; rfl))
            · have hoo := oOk_s hok
              show Z X (0) (0) (plw E rp SP ++ wkw E r (rs 0) (mwv S wh (bI ((evL SS ro (G.take i) ([], 0)).1.any (·.2))) va' (upd an' i 0)) ++ sw E rs SS) [(0, .ref (r 0)), (1, .ref (rp 0)), (2, .int (nI ro)), (3, .int (nI i)), (4, .int (nI k)), (5, .int b)] 151 [.int (nI o), .int (nI 98), .ref (r 0), .int (nI i), .ref (r 1)]
              refine z_iload_n (pc := 151) F dX6_work_151 rfl 3 rfl ?_
              refine z_callV (pc := 152) (q0 := 4) (ci := 6) (wr := plw E rp SP) (rest := [.int (nI i), .ref (r 1)]) F (c_X6_workField_s l E r rs S SS wh (bI ((evL SS ro (G.take i) ([], 0)).1.any (·.2))) va' (upd an' i 0) m 98 o i hs (by decide) hoo.1 hoo.2) 3 [4, 5, 6, 7, 8, 9, 10, 11, 12, 13] [0, 1, 2, 3] rfl rfl ⟨by decide, by decide, by decide⟩ ww_Worker_52 (by decide +kernel) rfl ⟨Nat.le_of_ble_eq_true rfl, Nat.le_of_ble_eq_true rfl⟩ ⟨Nat.le_of_ble_eq_true rfl, Nat.le_of_ble_eq_true rfl⟩ rfl rfl rfl rfl (Nat.le_of_ble_eq_true rfl) dX6_work_152 (fun v_ w1_ hp => ?_)
              obtain ⟨rfl, rfl⟩ := hp
              show Z X (0) (0) (plw E rp SP ++ wkw E r (rs 0) (mwv S (note wh o) (bI ((evL SS ro (G.take i) ([], 0)).1.any (·.2))) va' (upd an' i 0)) ++ sw E rs SS) [(0, .ref (r 0)), (1, .ref (rp 0)), (2, .int (nI ro)), (3, .int (nI i)), (4, .int (nI k)), (5, .int b)] 155 [.long (fldV SS 98 o), .int (nI i), .ref (r 1)]
              refine z_lastN (pc := 155) (ws' := plw E rp SP ++ wkw E r (rs 0) (mwv S (note wh o) (bI ((evL SS ro (G.take i) ([], 0)).1.any (·.2))) (vp_updL va' i (fldV SS 98 o)) (upd an' i 0)) ++ sw E rs SS) (f := va') F 5 1 rfl rfl i rfl (by omega) (by decide) dX6_work_155 rfl ?_
              refine z_goto (pc := 156) (tgt := 203) F dX6_work_156 (by decide) ?_
              refine z_locals (lv' := [(0, .ref (r 0)), (1, .ref (rp 0)), (2, .int (nI ro)), (3, .int (nI i))]) [0, 1, 2, 3] rfl ?_; exact J203 (fldV SS 98 o, false) _ _ _ ((evL_take SS ro hx ([], 0)).trans (evS_of (by rw [evN_f (by decide) (by omega), ← hw]; rfl))) (hoV_add hV hVl.symm rfl upd_lt (by rw [pk_us]; rfl))
          · refine z_lookup (off := 77) (tgt := 132) (pc := 55) F dX6_work_55 (by decide) (by decide) (by decide) ?_
            refine z_aload_n (pc := 132) F dX6_work_132 rfl 0 rfl ?_
            refine z_get (pc := 133) (v := .ref (r 1)) F iX6 4 rfl rfl 1 (by decide) tw_166 rfl dX6_work_133 ?_
            refine z_iload_n (pc := 136) F dX6_work_136 rfl 3 rfl ?_
            refine z_aload_n (pc := 137) F dX6_work_137 rfl 0 rfl ?_
            refine z_aload_n (pc := 138) F dX6_work_138 rfl 1 rfl ?_
            refine z_getN (pc := 139) (v := .ref (rp 1)) F iX2 0 rfl rfl 0 (by decide) nw_193 rfl dX6_work_139 ?_
            refine z_iload_n (pc := 142) F dX6_work_142 rfl 3 rfl ?_
            refine z_caldN (pc := 143) (f := za SP 1) F 1 3 rfl rfl i rfl (by omega) (by decide) dX6_work_143 ?_
            rw [show (za SP 1 i) = nI 99 from hGx.1]
            refine z_aload_n (pc := 144) F dX6_work_144 rfl 0 rfl ?_
            refine z_iload_n (pc := 145) F dX6_work_145 rfl 2 rfl ?_
            refine z_iload (pc := 146) F dX6_work_146 4 rfl ?_
            refine z_callV (pc := 148) (q0 := 4) (ci := 6) (wr := plw E rp SP) (rest := [.int (nI 99), .ref (r 0), .int (nI i), .ref (r 1)]) F (c_X6_walk l E r rs S SS ((evL SS ro (G.take i) ([], 0)).2) (bI ((evL SS ro (G.take i) ([], 0)).1.any (·.2))) va' (upd an' i 0) m ro k hs hrm hrt hk) 2 [4, 5, 6, 7, 8, 9, 10, 11, 12, 13] [0, 1, 2, 3] rfl rfl ⟨by decide, by decide, by decide⟩ ww_Worker_48 (by decide +kernel) rfl ⟨Nat.le_of_ble_eq_true rfl, Nat.le_of_ble_eq_true rfl⟩ ⟨Nat.le_of_ble_eq_true rfl, Nat.le_of_ble_eq_true rfl⟩ rfl rfl rfl rfl (Nat.le_of_ble_eq_true rfl) dX6_work_148 (fun v_ w1_ hp => ?_)
            obtain ⟨rfl, rfl⟩ := hp
            show Z X (0) (0) (plw E rp SP ++ wkw E r (rs 0) (mwv S ((wlk SS k (some ro) ((evL SS ro (G.take i) ([], 0)).2)).2) (bI ((evL SS ro (G.take i) ([], 0)).1.any (·.2))) va' (upd an' i 0)) ++ sw E rs SS) [(0, .ref (r 0)), (1, .ref (rp 0)), (2, .int (nI ro)), (3, .int (nI i)), (4, .int (nI k)), (5, .int b)] 151 [.int (oI (wlk SS k (some ro) ((evL SS ro (G.take i) ([], 0)).2)).1), .int (nI 99), .ref (r 0), .int (nI i), .ref (r 1)]
            obtain ⟨w, hw⟩ : ∃ w, w = wlk SS k (some ro) (evL SS ro (G.take i) ([], 0)).2 := ⟨_, rfl⟩
            rw [← hw]
            have hok : oOk SS m w.1 := by rw [hw]; exact wlk_ok hs _ _ _ (oOk_i hrm hrt)
            obtain ⟨wo, wh⟩ := w; rcases wo with _ | o
            · skip
              show Z X (0) (0) (plw E rp SP ++ wkw E r (rs 0) (mwv S wh (bI ((evL SS ro (G.take i) ([], 0)).1.any (·.2))) va' (upd an' i 0)) ++ sw E rs SS) [(0, .ref (r 0)), (1, .ref (rp 0)), (2, .int (nI ro)), (3, .int (nI i)), (4, .int (nI k)), (5, .int b)] 151 [.int (-1), .int (nI 99), .ref (r 0), .int (nI i), .ref (r 1)]
              refine z_iload_n (pc := 151) F dX6_work_151 rfl 3 rfl ?_
              refine z_callV (pc := 152) (q0 := 4) (ci := 6) (wr := plw E rp SP) (rest := [.int (nI i), .ref (r 1)]) F (c_X6_workField_n l E r rs S SS wh (bI ((evL SS ro (G.take i) ([], 0)).1.any (·.2))) va' (upd an' i 0) 99 i (by omega)) 3 [4, 5, 6, 7, 8, 9, 10, 11, 12, 13] [0, 1, 2, 3] rfl rfl ⟨by decide, by decide, by decide⟩ ww_Worker_52 (by decide +kernel) rfl ⟨Nat.le_of_ble_eq_true rfl, Nat.le_of_ble_eq_true rfl⟩ ⟨Nat.le_of_ble_eq_true rfl, Nat.le_of_ble_eq_true rfl⟩ rfl rfl rfl rfl (Nat.le_of_ble_eq_true rfl) dX6_work_152 (fun v_ w1_ hp => ?_)
              obtain ⟨rfl, rfl⟩ := hp
              show Z X (0) (0) (plw E rp SP ++ wkw E r (rs 0) (mwv S wh (bI ((evL SS ro (G.take i) ([], 0)).1.any (·.2))) va' (upd (upd an' i 0) i 1)) ++ sw E rs SS) [(0, .ref (r 0)), (1, .ref (rp 0)), (2, .int (nI ro)), (3, .int (nI i)), (4, .int (nI k)), (5, .int b)] 155 [.long 0, .int (nI i), .ref (r 1)]
              refine z_lastN (pc := 155) (ws' := plw E rp SP ++ wkw E r (rs 0) (mwv S wh (bI ((evL SS ro (G.take i) ([], 0)).1.any (·.2))) (vp_updL va' i 0) (upd (upd an' i 0) i 1)) ++ sw E rs SS) (f := va') F 5 1 rfl rfl i rfl (by omega) (by decide) dX6_work_155 rfl ?_
              refine z_goto (pc := 156) (tgt := 203) F dX6_work_156 (by decide) ?_
              refine z_locals (lv' := [(0, .ref (r 0)), (1, .ref (rp 0)), (2, .int (nI ro)), (3, .int (nI i))]) [0, 1, 2, 3] rfl ?_; exact J203 (0, true) _ _ _ ((evL_take SS ro hx ([], 0)).trans (evS_of (by rw [evN_f (by decide) (by omega), ← hw]; rfl))) (hoV_add hV hVl.symm rfl upd_lt2 (by rw [pk_us]; rfl))
            · have hoo := oOk_s hok
              show Z X (0) (0) (plw E rp SP ++ wkw E r (rs 0) (mwv S wh (bI ((evL SS ro (G.take i) ([], 0)).1.any (·.2))) va' (upd an' i 0)) ++ sw E rs SS) [(0, .ref (r 0)), (1, .ref (rp 0)), (2, .int (nI ro)), (3, .int (nI i)), (4, .int (nI k)), (5, .int b)] 151 [.int (nI o), .int (nI 99), .ref (r 0), .int (nI i), .ref (r 1)]
              refine z_iload_n (pc := 151) F dX6_work_151 rfl 3 rfl ?_
              refine z_callV (pc := 152) (q0 := 4) (ci := 6) (wr := plw E rp SP) (rest := [.int (nI i), .ref (r 1)]) F (c_X6_workField_s l E r rs S SS wh (bI ((evL SS ro (G.take i) ([], 0)).1.any (·.2))) va' (upd an' i 0) m 99 o i hs (by decide) hoo.1 hoo.2) 3 [4, 5, 6, 7, 8, 9, 10, 11, 12, 13] [0, 1, 2, 3] rfl rfl ⟨by decide, by decide, by decide⟩ ww_Worker_52 (by decide +kernel) rfl ⟨Nat.le_of_ble_eq_true rfl, Nat.le_of_ble_eq_true rfl⟩ ⟨Nat.le_of_ble_eq_true rfl, Nat.le_of_ble_eq_true rfl⟩ rfl rfl rfl rfl (Nat.le_of_ble_eq_true rfl) dX6_work_152 (fun v_ w1_ hp => ?_)
              obtain ⟨rfl, rfl⟩ := hp
              show Z X (0) (0) (plw E rp SP ++ wkw E r (rs 0) (mwv S (note wh o) (bI ((evL SS ro (G.take i) ([], 0)).1.any (·.2))) va' (upd an' i 0)) ++ sw E rs SS) [(0, .ref (r 0)), (1, .ref (rp 0)), (2, .int (nI ro)), (3, .int (nI i)), (4, .int (nI k)), (5, .int b)] 155 [.long (fldV SS 99 o), .int (nI i), .ref (r 1)]
              refine z_lastN (pc := 155) (ws' := plw E rp SP ++ wkw E r (rs 0) (mwv S (note wh o) (bI ((evL SS ro (G.take i) ([], 0)).1.any (·.2))) (vp_updL va' i (fldV SS 99 o)) (upd an' i 0)) ++ sw E rs SS) (f := va') F 5 1 rfl rfl i rfl (by omega) (by decide) dX6_work_155 rfl ?_
              refine z_goto (pc := 156) (tgt := 203) F dX6_work_156 (by decide) ?_
              refine z_locals (lv' := [(0, .ref (r 0)), (1, .ref (rp 0)), (2, .int (nI ro)), (3, .int (nI i))]) [0, 1, 2, 3] rfl ?_; exact J203 (fldV SS 99 o, false) _ _ _ ((evL_take SS ro hx ([], 0)).trans (evS_of (by rw [evN_f (by decide) (by omega), ← hw]; rfl))) (hoV_add hV hVl.symm rfl upd_lt (by rw [pk_us]; rfl))
          · refine z_lookup (off := 77) (tgt := 132) (pc := 55) F dX6_work_55 (by decide) (by decide) (by decide) ?_
            refine z_aload_n (pc := 132) F dX6_work_132 rfl 0 rfl ?_
            refine z_get (pc := 133) (v := .ref (r 1)) F iX6 4 rfl rfl 1 (by decide) tw_166 rfl dX6_work_133 ?_
            refine z_iload_n (pc := 136) F dX6_work_136 rfl 3 rfl ?_
            refine z_aload_n (pc := 137) F dX6_work_137 rfl 0 rfl ?_
            refine z_aload_n (pc := 138) F dX6_work_138 rfl 1 rfl ?_
            refine z_getN (pc := 139) (v := .ref (rp 1)) F iX2 0 rfl rfl 0 (by decide) nw_193 rfl dX6_work_139 ?_
            refine z_iload_n (pc := 142) F dX6_work_142 rfl 3 rfl ?_
            refine z_caldN (pc := 143) (f := za SP 1) F 1 3 rfl rfl i rfl (by omega) (by decide) dX6_work_143 ?_
            rw [show (za SP 1 i) = nI 105 from hGx.1]
            refine z_aload_n (pc := 144) F dX6_work_144 rfl 0 rfl ?_
            refine z_iload_n (pc := 145) F dX6_work_145 rfl 2 rfl ?_
            refine z_iload (pc := 146) F dX6_work_146 4 rfl ?_
            refine z_callV (pc := 148) (q0 := 4) (ci := 6) (wr := plw E rp SP) (rest := [.int (nI 105), .ref (r 0), .int (nI i), .ref (r 1)]) F (c_X6_walk l E r rs S SS ((evL SS ro (G.take i) ([], 0)).2) (bI ((evL SS ro (G.take i) ([], 0)).1.any (·.2))) va' (upd an' i 0) m ro k hs hrm hrt hk) 2 [4, 5, 6, 7, 8, 9, 10, 11, 12, 13] [0, 1, 2, 3] rfl rfl ⟨by decide, by decide, by decide⟩ ww_Worker_48 (by decide +kernel) rfl ⟨Nat.le_of_ble_eq_true rfl, Nat.le_of_ble_eq_true rfl⟩ ⟨Nat.le_of_ble_eq_true rfl, Nat.le_of_ble_eq_true rfl⟩ rfl rfl rfl rfl (Nat.le_of_ble_eq_true rfl) dX6_work_148 (fun v_ w1_ hp => ?_)
            obtain ⟨rfl, rfl⟩ := hp
            show Z X (0) (0) (plw E rp SP ++ wkw E r (rs 0) (mwv S ((wlk SS k (some ro) ((evL SS ro (G.take i) ([], 0)).2)).2) (bI ((evL SS ro (G.take i) ([], 0)).1.any (·.2))) va' (upd an' i 0)) ++ sw E rs SS) [(0, .ref (r 0)), (1, .ref (rp 0)), (2, .int (nI ro)), (3, .int (nI i)), (4, .int (nI k)), (5, .int b)] 151 [.int (oI (wlk SS k (some ro) ((evL SS ro (G.take i) ([], 0)).2)).1), .int (nI 105), .ref (r 0), .int (nI i), .ref (r 1)]
            obtain ⟨w, hw⟩ : ∃ w, w = wlk SS k (some ro) (evL SS ro (G.take i) ([], 0)).2 := ⟨_, rfl⟩
            rw [← hw]
            have hok : oOk SS m w.1 := by rw [hw]; exact wlk_ok hs _ _ _ (oOk_i hrm hrt)
            obtain ⟨wo, wh⟩ := w; rcases wo with _ | o
            · skip
              show Z X (0) (0) (plw E rp SP ++ wkw E r (rs 0) (mwv S wh (bI ((evL SS ro (G.take i) ([], 0)).1.any (·.2))) va' (upd an' i 0)) ++ sw E rs SS) [(0, .ref (r 0)), (1, .ref (rp 0)), (2, .int (nI ro)), (3, .int (nI i)), (4, .int (nI k)), (5, .int b)] 151 [.int (-1), .int (nI 105), .ref (r 0), .int (nI i), .ref (r 1)]
              refine z_iload_n (pc := 151) F dX6_work_151 rfl 3 rfl ?_
              refine z_callV (pc := 152) (q0 := 4) (ci := 6) (wr := plw E rp SP) (rest := [.int (nI i), .ref (r 1)]) F (c_X6_workField_n l E r rs S SS wh (bI ((evL SS ro (G.take i) ([], 0)).1.any (·.2))) va' (upd an' i 0) 105 i (by omega)) 3 [4, 5, 6, 7, 8, 9, 10, 11, 12, 13] [0, 1, 2, 3] rfl rfl ⟨by decide, by decide, by decide⟩ ww_Worker_52 (by decide +kernel) rfl ⟨Nat.le_of_ble_eq_true rfl, Nat.le_of_ble_eq_true rfl⟩ ⟨Nat.le_of_ble_eq_true rfl, Nat.le_of_ble_eq_true rfl⟩ rfl rfl rfl rfl (Nat.le_of_ble_eq_true rfl) dX6_work_152 (fun v_ w1_ hp => ?_)
              obtain ⟨rfl, rfl⟩ := hp
              show Z X (0) (0) (plw E rp SP ++ wkw E r (rs 0) (mwv S wh (bI ((evL SS ro (G.take i) ([], 0)).1.any (·.2))) va' (upd (upd an' i 0) i 1)) ++ sw E rs SS) [(0, .ref (r 0)), (1, .ref (rp 0)), (2, .int (nI ro)), (3, .int (nI i)), (4, .int (nI k)), (5, .int b)] 155 [.long 0, .int (nI i), .ref (r 1)]
              refine z_lastN (pc := 155) (ws' := plw E rp SP ++ wkw E r (rs 0) (mwv S wh (bI ((evL SS ro (G.take i) ([], 0)).1.any (·.2))) (vp_updL va' i 0) (upd (upd an' i 0) i 1)) ++ sw E rs SS) (f := va') F 5 1 rfl rfl i rfl (by omega) (by decide) dX6_work_155 rfl ?_
              refine z_goto (pc := 156) (tgt := 203) F dX6_work_156 (by decide) ?_
              refine z_locals (lv' := [(0, .ref (r 0)), (1, .ref (rp 0)), (2, .int (nI ro)), (3, .int (nI i))]) [0, 1, 2, 3] rfl ?_; exact J203 (0, true) _ _ _ ((evL_take SS ro hx ([], 0)).trans (evS_of (by rw [evN_f (by decide) (by omega), ← hw]; rfl))) (hoV_add hV hVl.symm rfl upd_lt2 (by rw [pk_us]; rfl))
            · have hoo := oOk_s hok
              show Z X (0) (0) (plw E rp SP ++ wkw E r (rs 0) (mwv S wh (bI ((evL SS ro (G.take i) ([], 0)).1.any (·.2))) va' (upd an' i 0)) ++ sw E rs SS) [(0, .ref (r 0)), (1, .ref (rp 0)), (2, .int (nI ro)), (3, .int (nI i)), (4, .int (nI k)), (5, .int b)] 151 [.int (nI o), .int (nI 105), .ref (r 0), .int (nI i), .ref (r 1)]
              refine z_iload_n (pc := 151) F dX6_work_151 rfl 3 rfl ?_
              refine z_callV (pc := 152) (q0 := 4) (ci := 6) (wr := plw E rp SP) (rest := [.int (nI i), .ref (r 1)]) F (c_X6_workField_s l E r rs S SS wh (bI ((evL SS ro (G.take i) ([], 0)).1.any (·.2))) va' (upd an' i 0) m 105 o i hs (by decide) hoo.1 hoo.2) 3 [4, 5, 6, 7, 8, 9, 10, 11, 12, 13] [0, 1, 2, 3] rfl rfl ⟨by decide, by decide, by decide⟩ ww_Worker_52 (by decide +kernel) rfl ⟨Nat.le_of_ble_eq_true rfl, Nat.le_of_ble_eq_true rfl⟩ ⟨Nat.le_of_ble_eq_true rfl, Nat.le_of_ble_eq_true rfl⟩ rfl rfl rfl rfl (Nat.le_of_ble_eq_true rfl) dX6_work_152 (fun v_ w1_ hp => ?_)
              obtain ⟨rfl, rfl⟩ := hp
              show Z X (0) (0) (plw E rp SP ++ wkw E r (rs 0) (mwv S (note wh o) (bI ((evL SS ro (G.take i) ([], 0)).1.any (·.2))) va' (upd an' i 0)) ++ sw E rs SS) [(0, .ref (r 0)), (1, .ref (rp 0)), (2, .int (nI ro)), (3, .int (nI i)), (4, .int (nI k)), (5, .int b)] 155 [.long (fldV SS 105 o), .int (nI i), .ref (r 1)]
              refine z_lastN (pc := 155) (ws' := plw E rp SP ++ wkw E r (rs 0) (mwv S (note wh o) (bI ((evL SS ro (G.take i) ([], 0)).1.any (·.2))) (vp_updL va' i (fldV SS 105 o)) (upd an' i 0)) ++ sw E rs SS) (f := va') F 5 1 rfl rfl i rfl (by omega) (by decide) dX6_work_155 rfl ?_
              refine z_goto (pc := 156) (tgt := 203) F dX6_work_156 (by decide) ?_
              refine z_locals (lv' := [(0, .ref (r 0)), (1, .ref (rp 0)), (2, .int (nI ro)), (3, .int (nI i))]) [0, 1, 2, 3] rfl ?_; exact J203 (fldV SS 105 o, false) _ _ _ ((evL_take SS ro hx ([], 0)).trans (evS_of (by rw [evN_f (by decide) (by omega), ← hw]; rfl))) (hoV_add hV hVl.symm rfl upd_lt (by rw [pk_us]; rfl))
          · refine z_lookup (off := 77) (tgt := 132) (pc := 55) F dX6_work_55 (by decide) (by decide) (by decide) ?_
            refine z_aload_n (pc := 132) F dX6_work_132 rfl 0 rfl ?_
            refine z_get (pc := 133) (v := .ref (r 1)) F iX6 4 rfl rfl 1 (by decide) tw_166 rfl dX6_work_133 ?_
            refine z_iload_n (pc := 136) F dX6_work_136 rfl 3 rfl ?_
            refine z_aload_n (pc := 137) F dX6_work_137 rfl 0 rfl ?_
            refine z_aload_n (pc := 138) F dX6_work_138 rfl 1 rfl ?_
            refine z_getN (pc := 139) (v := .ref (rp 1)) F iX2 0 rfl rfl 0 (by decide) nw_193 rfl dX6_work_139 ?_
            refine z_iload_n (pc := 142) F dX6_work_142 rfl 3 rfl ?_
            refine z_caldN (pc := 143) (f := za SP 1) F 1 3 rfl rfl i rfl (by omega) (by decide) dX6_work_143 ?_
            rw [show (za SP 1 i) = nI 110 from hGx.1]
            refine z_aload_n (pc := 144) F dX6_work_144 rfl 0 rfl ?_
            refine z_iload_n (pc := 145) F dX6_work_145 rfl 2 rfl ?_
            refine z_iload (pc := 146) F dX6_work_146 4 rfl ?_
            refine z_callV (pc := 148) (q0 := 4) (ci := 6) (wr := plw E rp SP) (rest := [.int (nI 110), .ref (r 0), .int (nI i), .ref (r 1)]) F (c_X6_walk l E r rs S SS ((evL SS ro (G.take i) ([], 0)).2) (bI ((evL SS ro (G.take i) ([], 0)).1.any (·.2))) va' (upd an' i 0) m ro k hs hrm hrt hk) 2 [4, 5, 6, 7, 8, 9, 10, 11, 12, 13] [0, 1, 2, 3] rfl rfl ⟨by decide, by decide, by decide⟩ ww_Worker_48 (by decide +kernel) rfl ⟨Nat.le_of_ble_eq_true rfl, Nat.le_of_ble_eq_true rfl⟩ ⟨Nat.le_of_ble_eq_true rfl, Nat.le_of_ble_eq_true rfl⟩ rfl rfl rfl rfl (Nat.le_of_ble_eq_true rfl) dX6_work_148 (fun v_ w1_ hp => ?_)
            obtain ⟨rfl, rfl⟩ := hp
            show Z X (0) (0) (plw E rp SP ++ wkw E r (rs 0) (mwv S ((wlk SS k (some ro) ((evL SS ro (G.take i) ([], 0)).2)).2) (bI ((evL SS ro (G.take i) ([], 0)).1.any (·.2))) va' (upd an' i 0)) ++ sw E rs SS) [(0, .ref (r 0)), (1, .ref (rp 0)), (2, .int (nI ro)), (3, .int (nI i)), (4, .int (nI k)), (5, .int b)] 151 [.int (oI (wlk SS k (some ro) ((evL SS ro (G.take i) ([], 0)).2)).1), .int (nI 110), .ref (r 0), .int (nI i), .ref (r 1)]
            obtain ⟨w, hw⟩ : ∃ w, w = wlk SS k (some ro) (evL SS ro (G.take i) ([], 0)).2 := ⟨_, rfl⟩
            rw [← hw]
            have hok : oOk SS m w.1 := by rw [hw]; exact wlk_ok hs _ _ _ (oOk_i hrm hrt)
            obtain ⟨wo, wh⟩ := w; rcases wo with _ | o
            · skip
              show Z X (0) (0) (plw E rp SP ++ wkw E r (rs 0) (mwv S wh (bI ((evL SS ro (G.take i) ([], 0)).1.any (·.2))) va' (upd an' i 0)) ++ sw E rs SS) [(0, .ref (r 0)), (1, .ref (rp 0)), (2, .int (nI ro)), (3, .int (nI i)), (4, .int (nI k)), (5, .int b)] 151 [.int (-1), .int (nI 110), .ref (r 0), .int (nI i), .ref (r 1)]
              refine z_iload_n (pc := 151) F dX6_work_151 rfl 3 rfl ?_
              refine z_callV (pc := 152) (q0 := 4) (ci := 6) (wr := plw E rp SP) (rest := [.int (nI i), .ref (r 1)]) F (c_X6_workField_n l E r rs S SS wh (bI ((evL SS ro (G.take i) ([], 0)).1.any (·.2))) va' (upd an' i 0) 110 i (by omega)) 3 [4, 5, 6, 7, 8, 9, 10, 11, 12, 13] [0, 1, 2, 3] rfl rfl ⟨by decide, by decide, by decide⟩ ww_Worker_52 (by decide +kernel) rfl ⟨Nat.le_of_ble_eq_true rfl, Nat.le_of_ble_eq_true rfl⟩ ⟨Nat.le_of_ble_eq_true rfl, Nat.le_of_ble_eq_true rfl⟩ rfl rfl rfl rfl (Nat.le_of_ble_eq_true rfl) dX6_work_152 (fun v_ w1_ hp => ?_)
              obtain ⟨rfl, rfl⟩ := hp
              show Z X (0) (0) (plw E rp SP ++ wkw E r (rs 0) (mwv S wh (bI ((evL SS ro (G.take i) ([], 0)).1.any (·.2))) va' (upd (upd an' i 0) i 1)) ++ sw E rs SS) [(0, .ref (r 0)), (1, .ref (rp 0)), (2, .int (nI ro)), (3, .int (nI i)), (4, .int (nI k)), (5, .int b)] 155 [.long 0, .int (nI i), .ref (r 1)]
              refine z_lastN (pc := 155) (ws' := plw E rp SP ++ wkw E r (rs 0) (mwv S wh (bI ((evL SS ro (G.take i) ([], 0)).1.any (·.2))) (vp_updL va' i 0) (upd (upd an' i 0) i 1)) ++ sw E rs SS) (f := va') F 5 1 rfl rfl i rfl (by omega) (by decide) dX6_work_155 rfl ?_
              refine z_goto (pc := 156) (tgt := 203) F dX6_work_156 (by decide) ?_
              refine z_locals (lv' := [(0, .ref (r 0)), (1, .ref (rp 0)), (2, .int (nI ro)), (3, .int (nI i))]) [0, 1, 2, 3] rfl ?_; exact J203 (0, true) _ _ _ ((evL_take SS ro hx ([], 0)).trans (evS_of (by rw [evN_f (by decide) (by omega), ← hw]; rfl))) (hoV_add hV hVl.symm rfl upd_lt2 (by rw [pk_us]; rfl))
            · have hoo := oOk_s hok
              show Z X (0) (0) (plw E rp SP ++ wkw E r (rs 0) (mwv S wh (bI ((evL SS ro (G.take i) ([], 0)).1.any (·.2))) va' (upd an' i 0)) ++ sw E rs SS) [(0, .ref (r 0)), (1, .ref (rp 0)), (2, .int (nI ro)), (3, .int (nI i)), (4, .int (nI k)), (5, .int b)] 151 [.int (nI o), .int (nI 110), .ref (r 0), .int (nI i), .ref (r 1)]
              refine z_iload_n (pc := 151) F dX6_work_151 rfl 3 rfl ?_
              refine z_callV (pc := 152) (q0 := 4) (ci := 6) (wr := plw E rp SP) (rest := [.int (nI i), .ref (r 1)]) F (c_X6_workField_s l E r rs S SS wh (bI ((evL SS ro (G.take i) ([], 0)).1.any (·.2))) va' (upd an' i 0) m 110 o i hs (by decide) hoo.1 hoo.2) 3 [4, 5, 6, 7, 8, 9, 10, 11, 12, 13] [0, 1, 2, 3] rfl rfl ⟨by decide, by decide, by decide⟩ ww_Worker_52 (by decide +kernel) rfl ⟨Nat.le_of_ble_eq_true rfl, Nat.le_of_ble_eq_true rfl⟩ ⟨Nat.le_of_ble_eq_true rfl, Nat.le_of_ble_eq_true rfl⟩ rfl rfl rfl rfl (Nat.le_of_ble_eq_true rfl) dX6_work_152 (fun v_ w1_ hp => ?_)
              obtain ⟨rfl, rfl⟩ := hp
              show Z X (0) (0) (plw E rp SP ++ wkw E r (rs 0) (mwv S (note wh o) (bI ((evL SS ro (G.take i) ([], 0)).1.any (·.2))) va' (upd an' i 0)) ++ sw E rs SS) [(0, .ref (r 0)), (1, .ref (rp 0)), (2, .int (nI ro)), (3, .int (nI i)), (4, .int (nI k)), (5, .int b)] 155 [.long (fldV SS 110 o), .int (nI i), .ref (r 1)]
              refine z_lastN (pc := 155) (ws' := plw E rp SP ++ wkw E r (rs 0) (mwv S (note wh o) (bI ((evL SS ro (G.take i) ([], 0)).1.any (·.2))) (vp_updL va' i (fldV SS 110 o)) (upd an' i 0)) ++ sw E rs SS) (f := va') F 5 1 rfl rfl i rfl (by omega) (by decide) dX6_work_155 rfl ?_
              refine z_goto (pc := 156) (tgt := 203) F dX6_work_156 (by decide) ?_
              refine z_locals (lv' := [(0, .ref (r 0)), (1, .ref (rp 0)), (2, .int (nI ro)), (3, .int (nI i))]) [0, 1, 2, 3] rfl ?_; exact J203 (fldV SS 110 o, false) _ _ _ ((evL_take SS ro hx ([], 0)).trans (evS_of (by rw [evN_f (by decide) (by omega), ← hw]; rfl))) (hoV_add hV hVl.symm rfl upd_lt (by rw [pk_us]; rfl))
        · dsimp only at hc ha hb; subst hc; subst ha; subst hb
          refine z_aload_n (pc := 26) F dX6_work_26 rfl 1 rfl ?_
          refine z_getN (pc := 27) (v := .ref (rp 2)) F iX2 0 rfl rfl 1 (by decide) nw_195 rfl dX6_work_27 ?_
          refine z_iload_n (pc := 30) F dX6_work_30 rfl 3 rfl ?_
          refine z_ialdN (pc := 31) (f := za SP 2) F 2 0 rfl rfl i rfl (by omega) (by decide) dX6_work_31 ?_
          rw [show (za SP 2 i) = nI k from hGx.2.1]
          refine z_istore (pc := 32) (lv' := [(0, .ref (r 0)), (1, .ref (rp 0)), (2, .int (nI ro)), (3, .int (nI i)), (4, .int (nI k))]) F dX6_work_32 (by decide) [1, 2, 3, 4, 0] rfl ?_
          refine z_aload_n (pc := 34) F dX6_work_34 rfl 1 rfl ?_
          refine z_getN (pc := 35) (v := .ref (rp 3)) F iX2 0 rfl rfl 2 (by decide) nw_197 rfl dX6_work_35 ?_
          refine z_iload_n (pc := 38) F dX6_work_38 rfl 3 rfl ?_
          refine z_ialdN (pc := 39) (f := za SP 3) F 3 0 rfl rfl i rfl (by omega) (by decide) dX6_work_39 ?_
          rw [show (za SP 3 i) = nI j from hGx.2.2]
          refine z_istore (pc := 40) (lv' := [(0, .ref (r 0)), (1, .ref (rp 0)), (2, .int (nI ro)), (3, .int (nI i)), (4, .int (nI k)), (5, .int (nI j))]) F dX6_work_40 (by decide) [1, 2, 3, 4, 5, 0] rfl ?_
          refine z_aload_n (pc := 42) F dX6_work_42 rfl 0 rfl ?_
          refine z_get (pc := 43) (v := .ref (r 2)) F iX6 4 rfl rfl 2 (by decide) tw_167 rfl dX6_work_43 ?_
          refine z_iload_n (pc := 46) F dX6_work_46 rfl 3 rfl ?_
          refine z_iconst (pc := 47) (v := 0) F dX6_work_47 (by decide) ?_
          refine z_zastN (pc := 48) (ws' := plw E rp SP ++ wkw E r (rs 0) (mwv S ((evL SS ro (G.take i) ([], 0)).2) (bI ((evL SS ro (G.take i) ([], 0)).1.any (·.2))) va' (upd an' i 0)) ++ sw E rs SS) (f := an') F 6 2 rfl rfl i rfl (by omega) (by decide) rfl dX6_work_48 rfl ?_
          refine z_aload_n (pc := 49) F dX6_work_49 rfl 1 rfl ?_
          refine z_getN (pc := 50) (v := .ref (rp 1)) F iX2 0 rfl rfl 0 (by decide) nw_193 rfl dX6_work_50 ?_
          refine z_iload_n (pc := 53) F dX6_work_53 rfl 3 rfl ?_
          refine z_caldN (pc := 54) (f := za SP 1) F 1 3 rfl rfl i rfl (by omega) (by decide) dX6_work_54 ?_
          rw [show (za SP 1 i) = nI 116 from hGx.1]
          · refine z_lookup (off := 104) (tgt := 159) (pc := 55) F dX6_work_55 (by decide) (by decide) (by decide) ?_
            refine z_aload_n (pc := 159) F dX6_work_159 rfl 0 rfl ?_
            refine z_get (pc := 160) (v := .ref (r 1)) F iX6 4 rfl rfl 1 (by decide) tw_166 rfl dX6_work_160 ?_
            refine z_iload_n (pc := 163) F dX6_work_163 rfl 3 rfl ?_
            refine z_aload_n (pc := 164) F dX6_work_164 rfl 0 rfl ?_
            refine z_aload_n (pc := 165) F dX6_work_165 rfl 0 rfl ?_
            refine z_iload_n (pc := 166) F dX6_work_166 rfl 2 rfl ?_
            refine z_iload (pc := 167) F dX6_work_167 4 rfl ?_
            refine z_callV (pc := 169) (q0 := 4) (ci := 6) (wr := plw E rp SP) (rest := [.ref (r 0), .int (nI i), .ref (r 1)]) F (c_X6_walk l E r rs S SS ((evL SS ro (G.take i) ([], 0)).2) (bI ((evL SS ro (G.take i) ([], 0)).1.any (·.2))) va' (upd an' i 0) m ro k hs hrm hrt hk) 2 [4, 5, 6, 7, 8, 9, 10, 11, 12, 13] [0, 1, 2, 3] rfl rfl ⟨by decide, by decide, by decide⟩ ww_Worker_48 (by decide +kernel) rfl ⟨Nat.le_of_ble_eq_true rfl, Nat.le_of_ble_eq_true rfl⟩ ⟨Nat.le_of_ble_eq_true rfl, Nat.le_of_ble_eq_true rfl⟩ rfl rfl rfl rfl (Nat.le_of_ble_eq_true rfl) dX6_work_169 (fun v_ w1_ hp => ?_)
            obtain ⟨rfl, rfl⟩ := hp
            show Z X (0) (0) (plw E rp SP ++ wkw E r (rs 0) (mwv S ((wlk SS k (some ro) ((evL SS ro (G.take i) ([], 0)).2)).2) (bI ((evL SS ro (G.take i) ([], 0)).1.any (·.2))) va' (upd an' i 0)) ++ sw E rs SS) [(0, .ref (r 0)), (1, .ref (rp 0)), (2, .int (nI ro)), (3, .int (nI i)), (4, .int (nI k)), (5, .int (nI j))] 172 [.int (oI (wlk SS k (some ro) ((evL SS ro (G.take i) ([], 0)).2)).1), .ref (r 0), .int (nI i), .ref (r 1)]
            obtain ⟨w, hw⟩ : ∃ w, w = wlk SS k (some ro) (evL SS ro (G.take i) ([], 0)).2 := ⟨_, rfl⟩
            rw [← hw]
            have hok : oOk SS m w.1 := by rw [hw]; exact wlk_ok hs _ _ _ (oOk_i hrm hrt)
            obtain ⟨wo, wh⟩ := w; rcases wo with _ | o
            · skip
              show Z X (0) (0) (plw E rp SP ++ wkw E r (rs 0) (mwv S wh (bI ((evL SS ro (G.take i) ([], 0)).1.any (·.2))) va' (upd an' i 0)) ++ sw E rs SS) [(0, .ref (r 0)), (1, .ref (rp 0)), (2, .int (nI ro)), (3, .int (nI i)), (4, .int (nI k)), (5, .int (nI j))] 172 [.int (-1), .ref (r 0), .int (nI i), .ref (r 1)]
              refine z_iload (pc := 172) F dX6_work_172 5 rfl ?_
              refine z_iload_n (pc := 174) F dX6_work_174 rfl 3 rfl ?_
              refine z_callV (pc := 175) (q0 := 4) (ci := 6) (wr := plw E rp SP) (rest := [.int (nI i), .ref (r 1)]) F (c_X6_workItem_n l E r rs S SS wh (bI ((evL SS ro (G.take i) ([], 0)).1.any (·.2))) va' (upd an' i 0) (nI j) i (by omega)) 3 [4, 5, 6, 7, 8, 9, 10, 11, 12, 13] [0, 1, 2, 3] rfl rfl ⟨by decide, by decide, by decide⟩ ww_Worker_56 (by decide +kernel) rfl ⟨Nat.le_of_ble_eq_true rfl, Nat.le_of_ble_eq_true rfl⟩ ⟨Nat.le_of_ble_eq_true rfl, Nat.le_of_ble_eq_true rfl⟩ rfl rfl rfl rfl (Nat.le_of_ble_eq_true rfl) dX6_work_175 (fun v_ w1_ hp => ?_)
              obtain ⟨rfl, rfl⟩ := hp
              show Z X (0) (0) (plw E rp SP ++ wkw E r (rs 0) (mwv S wh (bI ((evL SS ro (G.take i) ([], 0)).1.any (·.2))) va' (upd (upd an' i 0) i 1)) ++ sw E rs SS) [(0, .ref (r 0)), (1, .ref (rp 0)), (2, .int (nI ro)), (3, .int (nI i)), (4, .int (nI k)), (5, .int (nI j))] 178 [.long 0, .int (nI i), .ref (r 1)]
              refine z_lastN (pc := 178) (ws' := plw E rp SP ++ wkw E r (rs 0) (mwv S wh (bI ((evL SS ro (G.take i) ([], 0)).1.any (·.2))) (vp_updL va' i 0) (upd (upd an' i 0) i 1)) ++ sw E rs SS) (f := va') F 5 1 rfl rfl i rfl (by omega) (by decide) dX6_work_178 rfl ?_
              refine z_goto (pc := 179) (tgt := 203) F dX6_work_179 (by decide) ?_
              refine z_locals (lv' := [(0, .ref (r 0)), (1, .ref (rp 0)), (2, .int (nI ro)), (3, .int (nI i))]) [0, 1, 2, 3] rfl ?_; exact J203 (0, true) _ _ _ ((evL_take SS ro hx ([], 0)).trans (evS_of (by rw [evN_t (by omega), ← hw]; rfl))) (hoV_add hV hVl.symm rfl upd_lt2 (by rw [pk_us]; rfl))
            · have hoo := oOk_s hok
              show Z X (0) (0) (plw E rp SP ++ wkw E r (rs 0) (mwv S wh (bI ((evL SS ro (G.take i) ([], 0)).1.any (·.2))) va' (upd an' i 0)) ++ sw E rs SS) [(0, .ref (r 0)), (1, .ref (rp 0)), (2, .int (nI ro)), (3, .int (nI i)), (4, .int (nI k)), (5, .int (nI j))] 172 [.int (nI o), .ref (r 0), .int (nI i), .ref (r 1)]
              refine z_iload (pc := 172) F dX6_work_172 5 rfl ?_
              refine z_iload_n (pc := 174) F dX6_work_174 rfl 3 rfl ?_
              refine z_callV (pc := 175) (q0 := 4) (ci := 6) (wr := plw E rp SP) (rest := [.int (nI i), .ref (r 1)]) F (c_X6_workItem_s l E r rs S SS wh (bI ((evL SS ro (G.take i) ([], 0)).1.any (·.2))) va' (upd an' i 0) m ((evL SS ro (G.take i) ([], 0)).1) j i o hs (hoV_0 hV hVl) (by omega) (by omega) (by omega) hoo.1 hoo.2) 3 [4, 5, 6, 7, 8, 9, 10, 11, 12, 13] [0, 1, 2, 3] rfl rfl ⟨by decide, by decide, by decide⟩ ww_Worker_56 (by decide +kernel) rfl ⟨Nat.le_of_ble_eq_true rfl, Nat.le_of_ble_eq_true rfl⟩ ⟨Nat.le_of_ble_eq_true rfl, Nat.le_of_ble_eq_true rfl⟩ rfl rfl rfl rfl (Nat.le_of_ble_eq_true rfl) dX6_work_175 (fun v_ w1_ hp => ?_)
              obtain ⟨an2, rfl, rfl, hn1, hn2⟩ := hp
              show Z X (0) (0) (plw E rp SP ++ wkw E r (rs 0) (mwv S (note wh o) (bI ((evL SS ro (G.take i) ([], 0)).1.any (·.2))) va' an2) ++ sw E rs SS) [(0, .ref (r 0)), (1, .ref (rp 0)), (2, .int (nI ro)), (3, .int (nI i)), (4, .int (nI k)), (5, .int (nI j))] 178 [.long ((if (gV ((evL SS ro (G.take i) ([], 0)).1) (nI j)).2 then (0, true) else itmV SS o (gV ((evL SS ro (G.take i) ([], 0)).1) (nI j)).1).1), .int (nI i), .ref (r 1)]
              refine z_lastN (pc := 178) (ws' := plw E rp SP ++ wkw E r (rs 0) (mwv S (note wh o) (bI ((evL SS ro (G.take i) ([], 0)).1.any (·.2))) (vp_updL va' i ((if (gV ((evL SS ro (G.take i) ([], 0)).1) (nI j)).2 then (0, true) else itmV SS o (gV ((evL SS ro (G.take i) ([], 0)).1) (nI j)).1).1)) an2) ++ sw E rs SS) (f := va') F 5 1 rfl rfl i rfl (by omega) (by decide) dX6_work_178 rfl ?_
              refine z_goto (pc := 179) (tgt := 203) F dX6_work_179 (by decide) ?_
              refine z_locals (lv' := [(0, .ref (r 0)), (1, .ref (rp 0)), (2, .int (nI ro)), (3, .int (nI i))]) [0, 1, 2, 3] rfl ?_; exact J203 _ _ _ _ ((evL_take SS ro hx ([], 0)).trans (evS_of (by rw [evN_t (by omega), ← hw]; rfl))) (hoV_add hV hVl.symm rfl (fun q hq => by rw [hn1 q hq]; exact upd_lt q hq) (hn2 pk_us))
        · dsimp only at hc ha hb; subst ha; subst hb
          refine z_aload_n (pc := 26) F dX6_work_26 rfl 1 rfl ?_
          refine z_getN (pc := 27) (v := .ref (rp 2)) F iX2 0 rfl rfl 1 (by decide) nw_195 rfl dX6_work_27 ?_
          refine z_iload_n (pc := 30) F dX6_work_30 rfl 3 rfl ?_
          refine z_ialdN (pc := 31) (f := za SP 2) F 2 0 rfl rfl i rfl (by omega) (by decide) dX6_work_31 ?_
          rw [show (za SP 2 i) = nI a1 from hGx.2.1]
          refine z_istore (pc := 32) (lv' := [(0, .ref (r 0)), (1, .ref (rp 0)), (2, .int (nI ro)), (3, .int (nI i)), (4, .int (nI a1))]) F dX6_work_32 (by decide) [1, 2, 3, 4, 0] rfl ?_
          refine z_aload_n (pc := 34) F dX6_work_34 rfl 1 rfl ?_
          refine z_getN (pc := 35) (v := .ref (rp 3)) F iX2 0 rfl rfl 2 (by decide) nw_197 rfl dX6_work_35 ?_
          refine z_iload_n (pc := 38) F dX6_work_38 rfl 3 rfl ?_
          refine z_ialdN (pc := 39) (f := za SP 3) F 3 0 rfl rfl i rfl (by omega) (by decide) dX6_work_39 ?_
          rw [show (za SP 3 i) = nI b1 from hGx.2.2]
          refine z_istore (pc := 40) (lv' := [(0, .ref (r 0)), (1, .ref (rp 0)), (2, .int (nI ro)), (3, .int (nI i)), (4, .int (nI a1)), (5, .int (nI b1))]) F dX6_work_40 (by decide) [1, 2, 3, 4, 5, 0] rfl ?_
          refine z_aload_n (pc := 42) F dX6_work_42 rfl 0 rfl ?_
          refine z_get (pc := 43) (v := .ref (r 2)) F iX6 4 rfl rfl 2 (by decide) tw_167 rfl dX6_work_43 ?_
          refine z_iload_n (pc := 46) F dX6_work_46 rfl 3 rfl ?_
          refine z_iconst (pc := 47) (v := 0) F dX6_work_47 (by decide) ?_
          refine z_zastN (pc := 48) (ws' := plw E rp SP ++ wkw E r (rs 0) (mwv S ((evL SS ro (G.take i) ([], 0)).2) (bI ((evL SS ro (G.take i) ([], 0)).1.any (·.2))) va' (upd an' i 0)) ++ sw E rs SS) (f := an') F 6 2 rfl rfl i rfl (by omega) (by decide) rfl dX6_work_48 rfl ?_
          refine z_aload_n (pc := 49) F dX6_work_49 rfl 1 rfl ?_
          refine z_getN (pc := 50) (v := .ref (rp 1)) F iX2 0 rfl rfl 0 (by decide) nw_193 rfl dX6_work_50 ?_
          refine z_iload_n (pc := 53) F dX6_work_53 rfl 3 rfl ?_
          refine z_caldN (pc := 54) (f := za SP 1) F 1 3 rfl rfl i rfl (by omega) (by decide) dX6_work_54 ?_
          rw [show (za SP 1 i) = nI c from hGx.1]
          rcases hc with rfl | rfl | rfl | rfl | rfl | rfl | rfl | rfl | rfl | rfl | rfl | rfl | rfl
          · refine z_lookup (off := 127) (tgt := 182) (pc := 55) F dX6_work_55 (by decide) (by decide) (by decide) ?_
            refine z_aload_n (pc := 182) F dX6_work_182 rfl 0 rfl ?_
            refine z_get (pc := 183) (v := .ref (r 1)) F iX6 4 rfl rfl 1 (by decide) tw_166 rfl dX6_work_183 ?_
            refine z_iload_n (pc := 186) F dX6_work_186 rfl 3 rfl ?_
            refine z_aload_n (pc := 187) F dX6_work_187 rfl 0 rfl ?_
            refine z_aload_n (pc := 188) F dX6_work_188 rfl 1 rfl ?_
            refine z_getN (pc := 189) (v := .ref (rp 1)) F iX2 0 rfl rfl 0 (by decide) nw_193 rfl dX6_work_189 ?_
            refine z_iload_n (pc := 192) F dX6_work_192 rfl 3 rfl ?_
            refine z_caldN (pc := 193) (f := za SP 1) F 1 3 rfl rfl i rfl (by omega) (by decide) dX6_work_193 ?_
            rw [show (za SP 1 i) = nI 37 from hGx.1]
            refine z_iload (pc := 194) F dX6_work_194 4 rfl ?_
            refine z_iload (pc := 196) F dX6_work_196 5 rfl ?_
            refine z_iload_n (pc := 198) F dX6_work_198 rfl 3 rfl ?_
            refine z_callV (pc := 199) (q0 := 4) (ci := 6) (wr := plw E rp SP) (rest := [.int (nI i), .ref (r 1)]) F (c_X6_workPair l E r rs S SS ((evL SS ro (G.take i) ([], 0)).2) (bI ((evL SS ro (G.take i) ([], 0)).1.any (·.2))) va' (upd an' i 0) 37 ((evL SS ro (G.take i) ([], 0)).1) a1 b1 i (hoV_0 hV hVl) (by omega) (by omega) (by omega) (by omega) (by omega) (by decide)) 4 [4, 5, 6, 7, 8, 9, 10, 11, 12, 13] [0, 1, 2, 3] rfl rfl ⟨by decide, by decide, by decide⟩ ww_Worker_60 (by decide +kernel) rfl ⟨Nat.le_of_ble_eq_true rfl, Nat.le_of_ble_eq_true rfl⟩ ⟨Nat.le_of_ble_eq_true rfl, Nat.le_of_ble_eq_true rfl⟩ rfl rfl rfl rfl (Nat.le_of_ble_eq_true rfl) dX6_work_199 (fun v_ w1_ hp => ?_)
            obtain ⟨an2, rfl, rfl, hn1, hn2⟩ := hp
            show Z X (0) (0) (plw E rp SP ++ wkw E r (rs 0) (mwv S ((evL SS ro (G.take i) ([], 0)).2) (bI ((evL SS ro (G.take i) ([], 0)).1.any (·.2))) va' an2) ++ sw E rs SS) [(0, .ref (r 0)), (1, .ref (rp 0)), (2, .int (nI ro)), (3, .int (nI i)), (4, .int (nI a1)), (5, .int (nI b1))] 202 [.long ((evP 37 (gV ((evL SS ro (G.take i) ([], 0)).1) (nI a1)) (gV ((evL SS ro (G.take i) ([], 0)).1) (nI b1))).1), .int (nI i), .ref (r 1)]
            refine z_lastN (pc := 202) (ws' := plw E rp SP ++ wkw E r (rs 0) (mwv S ((evL SS ro (G.take i) ([], 0)).2) (bI ((evL SS ro (G.take i) ([], 0)).1.any (·.2))) (vp_updL va' i ((evP 37 (gV ((evL SS ro (G.take i) ([], 0)).1) (nI a1)) (gV ((evL SS ro (G.take i) ([], 0)).1) (nI b1))).1)) an2) ++ sw E rs SS) (f := va') F 5 1 rfl rfl i rfl (by omega) (by decide) dX6_work_202 rfl ?_
            refine z_locals (lv' := [(0, .ref (r 0)), (1, .ref (rp 0)), (2, .int (nI ro)), (3, .int (nI i))]) [0, 1, 2, 3] rfl ?_; exact J203 _ _ _ _ ((evL_take SS ro hx ([], 0)).trans (evS_of (evN_p (by decide)))) (hoV_add hV hVl.symm rfl (fun q hq => by rw [hn1 q hq]; exact upd_lt q hq) (hn2 pk_us))
          · refine z_lookup (off := 127) (tgt := 182) (pc := 55) F dX6_work_55 (by decide) (by decide) (by decide) ?_
            refine z_aload_n (pc := 182) F dX6_work_182 rfl 0 rfl ?_
            refine z_get (pc := 183) (v := .ref (r 1)) F iX6 4 rfl rfl 1 (by decide) tw_166 rfl dX6_work_183 ?_
            refine z_iload_n (pc := 186) F dX6_work_186 rfl 3 rfl ?_
            refine z_aload_n (pc := 187) F dX6_work_187 rfl 0 rfl ?_
            refine z_aload_n (pc := 188) F dX6_work_188 rfl 1 rfl ?_
            refine z_getN (pc := 189) (v := .ref (rp 1)) F iX2 0 rfl rfl 0 (by decide) nw_193 rfl dX6_work_189 ?_
            refine z_iload_n (pc := 192) F dX6_work_192 rfl 3 rfl ?_
            refine z_caldN (pc := 193) (f := za SP 1) F 1 3 rfl rfl i rfl (by omega) (by decide) dX6_work_193 ?_
            rw [show (za SP 1 i) = nI 42 from hGx.1]
            refine z_iload (pc := 194) F dX6_work_194 4 rfl ?_
            refine z_iload (pc := 196) F dX6_work_196 5 rfl ?_
            refine z_iload_n (pc := 198) F dX6_work_198 rfl 3 rfl ?_
            refine z_callV (pc := 199) (q0 := 4) (ci := 6) (wr := plw E rp SP) (rest := [.int (nI i), .ref (r 1)]) F (c_X6_workPair l E r rs S SS ((evL SS ro (G.take i) ([], 0)).2) (bI ((evL SS ro (G.take i) ([], 0)).1.any (·.2))) va' (upd an' i 0) 42 ((evL SS ro (G.take i) ([], 0)).1) a1 b1 i (hoV_0 hV hVl) (by omega) (by omega) (by omega) (by omega) (by omega) (by decide)) 4 [4, 5, 6, 7, 8, 9, 10, 11, 12, 13] [0, 1, 2, 3] rfl rfl ⟨by decide, by decide, by decide⟩ ww_Worker_60 (by decide +kernel) rfl ⟨Nat.le_of_ble_eq_true rfl, Nat.le_of_ble_eq_true rfl⟩ ⟨Nat.le_of_ble_eq_true rfl, Nat.le_of_ble_eq_true rfl⟩ rfl rfl rfl rfl (Nat.le_of_ble_eq_true rfl) dX6_work_199 (fun v_ w1_ hp => ?_)
            obtain ⟨an2, rfl, rfl, hn1, hn2⟩ := hp
            show Z X (0) (0) (plw E rp SP ++ wkw E r (rs 0) (mwv S ((evL SS ro (G.take i) ([], 0)).2) (bI ((evL SS ro (G.take i) ([], 0)).1.any (·.2))) va' an2) ++ sw E rs SS) [(0, .ref (r 0)), (1, .ref (rp 0)), (2, .int (nI ro)), (3, .int (nI i)), (4, .int (nI a1)), (5, .int (nI b1))] 202 [.long ((evP 42 (gV ((evL SS ro (G.take i) ([], 0)).1) (nI a1)) (gV ((evL SS ro (G.take i) ([], 0)).1) (nI b1))).1), .int (nI i), .ref (r 1)]
            refine z_lastN (pc := 202) (ws' := plw E rp SP ++ wkw E r (rs 0) (mwv S ((evL SS ro (G.take i) ([], 0)).2) (bI ((evL SS ro (G.take i) ([], 0)).1.any (·.2))) (vp_updL va' i ((evP 42 (gV ((evL SS ro (G.take i) ([], 0)).1) (nI a1)) (gV ((evL SS ro (G.take i) ([], 0)).1) (nI b1))).1)) an2) ++ sw E rs SS) (f := va') F 5 1 rfl rfl i rfl (by omega) (by decide) dX6_work_202 rfl ?_
            refine z_locals (lv' := [(0, .ref (r 0)), (1, .ref (rp 0)), (2, .int (nI ro)), (3, .int (nI i))]) [0, 1, 2, 3] rfl ?_; exact J203 _ _ _ _ ((evL_take SS ro hx ([], 0)).trans (evS_of (evN_p (by decide)))) (hoV_add hV hVl.symm rfl (fun q hq => by rw [hn1 q hq]; exact upd_lt q hq) (hn2 pk_us))
          · refine z_lookup (off := 127) (tgt := 182) (pc := 55) F dX6_work_55 (by decide) (by decide) (by decide) ?_
            refine z_aload_n (pc := 182) F dX6_work_182 rfl 0 rfl ?_
            refine z_get (pc := 183) (v := .ref (r 1)) F iX6 4 rfl rfl 1 (by decide) tw_166 rfl dX6_work_183 ?_
            refine z_iload_n (pc := 186) F dX6_work_186 rfl 3 rfl ?_
            refine z_aload_n (pc := 187) F dX6_work_187 rfl 0 rfl ?_
            refine z_aload_n (pc := 188) F dX6_work_188 rfl 1 rfl ?_
            refine z_getN (pc := 189) (v := .ref (rp 1)) F iX2 0 rfl rfl 0 (by decide) nw_193 rfl dX6_work_189 ?_
            refine z_iload_n (pc := 192) F dX6_work_192 rfl 3 rfl ?_
            refine z_caldN (pc := 193) (f := za SP 1) F 1 3 rfl rfl i rfl (by omega) (by decide) dX6_work_193 ?_
            rw [show (za SP 1 i) = nI 43 from hGx.1]
            refine z_iload (pc := 194) F dX6_work_194 4 rfl ?_
            refine z_iload (pc := 196) F dX6_work_196 5 rfl ?_
            refine z_iload_n (pc := 198) F dX6_work_198 rfl 3 rfl ?_
            refine z_callV (pc := 199) (q0 := 4) (ci := 6) (wr := plw E rp SP) (rest := [.int (nI i), .ref (r 1)]) F (c_X6_workPair l E r rs S SS ((evL SS ro (G.take i) ([], 0)).2) (bI ((evL SS ro (G.take i) ([], 0)).1.any (·.2))) va' (upd an' i 0) 43 ((evL SS ro (G.take i) ([], 0)).1) a1 b1 i (hoV_0 hV hVl) (by omega) (by omega) (by omega) (by omega) (by omega) (by decide)) 4 [4, 5, 6, 7, 8, 9, 10, 11, 12, 13] [0, 1, 2, 3] rfl rfl ⟨by decide, by decide, by decide⟩ ww_Worker_60 (by decide +kernel) rfl ⟨Nat.le_of_ble_eq_true rfl, Nat.le_of_ble_eq_true rfl⟩ ⟨Nat.le_of_ble_eq_true rfl, Nat.le_of_ble_eq_true rfl⟩ rfl rfl rfl rfl (Nat.le_of_ble_eq_true rfl) dX6_work_199 (fun v_ w1_ hp => ?_)
            obtain ⟨an2, rfl, rfl, hn1, hn2⟩ := hp
            show Z X (0) (0) (plw E rp SP ++ wkw E r (rs 0) (mwv S ((evL SS ro (G.take i) ([], 0)).2) (bI ((evL SS ro (G.take i) ([], 0)).1.any (·.2))) va' an2) ++ sw E rs SS) [(0, .ref (r 0)), (1, .ref (rp 0)), (2, .int (nI ro)), (3, .int (nI i)), (4, .int (nI a1)), (5, .int (nI b1))] 202 [.long ((evP 43 (gV ((evL SS ro (G.take i) ([], 0)).1) (nI a1)) (gV ((evL SS ro (G.take i) ([], 0)).1) (nI b1))).1), .int (nI i), .ref (r 1)]
            refine z_lastN (pc := 202) (ws' := plw E rp SP ++ wkw E r (rs 0) (mwv S ((evL SS ro (G.take i) ([], 0)).2) (bI ((evL SS ro (G.take i) ([], 0)).1.any (·.2))) (vp_updL va' i ((evP 43 (gV ((evL SS ro (G.take i) ([], 0)).1) (nI a1)) (gV ((evL SS ro (G.take i) ([], 0)).1) (nI b1))).1)) an2) ++ sw E rs SS) (f := va') F 5 1 rfl rfl i rfl (by omega) (by decide) dX6_work_202 rfl ?_
            refine z_locals (lv' := [(0, .ref (r 0)), (1, .ref (rp 0)), (2, .int (nI ro)), (3, .int (nI i))]) [0, 1, 2, 3] rfl ?_; exact J203 _ _ _ _ ((evL_take SS ro hx ([], 0)).trans (evS_of (evN_p (by decide)))) (hoV_add hV hVl.symm rfl (fun q hq => by rw [hn1 q hq]; exact upd_lt q hq) (hn2 pk_us))
          · refine z_lookup (off := 127) (tgt := 182) (pc := 55) F dX6_work_55 (by decide) (by decide) (by decide) ?_
            refine z_aload_n (pc := 182) F dX6_work_182 rfl 0 rfl ?_
            refine z_get (pc := 183) (v := .ref (r 1)) F iX6 4 rfl rfl 1 (by decide) tw_166 rfl dX6_work_183 ?_
            refine z_iload_n (pc := 186) F dX6_work_186 rfl 3 rfl ?_
            refine z_aload_n (pc := 187) F dX6_work_187 rfl 0 rfl ?_
            refine z_aload_n (pc := 188) F dX6_work_188 rfl 1 rfl ?_
            refine z_getN (pc := 189) (v := .ref (rp 1)) F iX2 0 rfl rfl 0 (by decide) nw_193 rfl dX6_work_189 ?_
            refine z_iload_n (pc := 192) F dX6_work_192 rfl 3 rfl ?_
            refine z_caldN (pc := 193) (f := za SP 1) F 1 3 rfl rfl i rfl (by omega) (by decide) dX6_work_193 ?_
            rw [show (za SP 1 i) = nI 45 from hGx.1]
            refine z_iload (pc := 194) F dX6_work_194 4 rfl ?_
            refine z_iload (pc := 196) F dX6_work_196 5 rfl ?_
            refine z_iload_n (pc := 198) F dX6_work_198 rfl 3 rfl ?_
            refine z_callV (pc := 199) (q0 := 4) (ci := 6) (wr := plw E rp SP) (rest := [.int (nI i), .ref (r 1)]) F (c_X6_workPair l E r rs S SS ((evL SS ro (G.take i) ([], 0)).2) (bI ((evL SS ro (G.take i) ([], 0)).1.any (·.2))) va' (upd an' i 0) 45 ((evL SS ro (G.take i) ([], 0)).1) a1 b1 i (hoV_0 hV hVl) (by omega) (by omega) (by omega) (by omega) (by omega) (by decide)) 4 [4, 5, 6, 7, 8, 9, 10, 11, 12, 13] [0, 1, 2, 3] rfl rfl ⟨by decide, by decide, by decide⟩ ww_Worker_60 (by decide +kernel) rfl ⟨Nat.le_of_ble_eq_true rfl, Nat.le_of_ble_eq_true rfl⟩ ⟨Nat.le_of_ble_eq_true rfl, Nat.le_of_ble_eq_true rfl⟩ rfl rfl rfl rfl (Nat.le_of_ble_eq_true rfl) dX6_work_199 (fun v_ w1_ hp => ?_)
            obtain ⟨an2, rfl, rfl, hn1, hn2⟩ := hp
            show Z X (0) (0) (plw E rp SP ++ wkw E r (rs 0) (mwv S ((evL SS ro (G.take i) ([], 0)).2) (bI ((evL SS ro (G.take i) ([], 0)).1.any (·.2))) va' an2) ++ sw E rs SS) [(0, .ref (r 0)), (1, .ref (rp 0)), (2, .int (nI ro)), (3, .int (nI i)), (4, .int (nI a1)), (5, .int (nI b1))] 202 [.long ((evP 45 (gV ((evL SS ro (G.take i) ([], 0)).1) (nI a1)) (gV ((evL SS ro (G.take i) ([], 0)).1) (nI b1))).1), .int (nI i), .ref (r 1)]
            refine z_lastN (pc := 202) (ws' := plw E rp SP ++ wkw E r (rs 0) (mwv S ((evL SS ro (G.take i) ([], 0)).2) (bI ((evL SS ro (G.take i) ([], 0)).1.any (·.2))) (vp_updL va' i ((evP 45 (gV ((evL SS ro (G.take i) ([], 0)).1) (nI a1)) (gV ((evL SS ro (G.take i) ([], 0)).1) (nI b1))).1)) an2) ++ sw E rs SS) (f := va') F 5 1 rfl rfl i rfl (by omega) (by decide) dX6_work_202 rfl ?_
            refine z_locals (lv' := [(0, .ref (r 0)), (1, .ref (rp 0)), (2, .int (nI ro)), (3, .int (nI i))]) [0, 1, 2, 3] rfl ?_; exact J203 _ _ _ _ ((evL_take SS ro hx ([], 0)).trans (evS_of (evN_p (by decide)))) (hoV_add hV hVl.symm rfl (fun q hq => by rw [hn1 q hq]; exact upd_lt q hq) (hn2 pk_us))
          · refine z_lookup (off := 127) (tgt := 182) (pc := 55) F dX6_work_55 (by decide) (by decide) (by decide) ?_
            refine z_aload_n (pc := 182) F dX6_work_182 rfl 0 rfl ?_
            refine z_get (pc := 183) (v := .ref (r 1)) F iX6 4 rfl rfl 1 (by decide) tw_166 rfl dX6_work_183 ?_
            refine z_iload_n (pc := 186) F dX6_work_186 rfl 3 rfl ?_
            refine z_aload_n (pc := 187) F dX6_work_187 rfl 0 rfl ?_
            refine z_aload_n (pc := 188) F dX6_work_188 rfl 1 rfl ?_
            refine z_getN (pc := 189) (v := .ref (rp 1)) F iX2 0 rfl rfl 0 (by decide) nw_193 rfl dX6_work_189 ?_
            refine z_iload_n (pc := 192) F dX6_work_192 rfl 3 rfl ?_
            refine z_caldN (pc := 193) (f := za SP 1) F 1 3 rfl rfl i rfl (by omega) (by decide) dX6_work_193 ?_
            rw [show (za SP 1 i) = nI 47 from hGx.1]
            refine z_iload (pc := 194) F dX6_work_194 4 rfl ?_
            refine z_iload (pc := 196) F dX6_work_196 5 rfl ?_
            refine z_iload_n (pc := 198) F dX6_work_198 rfl 3 rfl ?_
            refine z_callV (pc := 199) (q0 := 4) (ci := 6) (wr := plw E rp SP) (rest := [.int (nI i), .ref (r 1)]) F (c_X6_workPair l E r rs S SS ((evL SS ro (G.take i) ([], 0)).2) (bI ((evL SS ro (G.take i) ([], 0)).1.any (·.2))) va' (upd an' i 0) 47 ((evL SS ro (G.take i) ([], 0)).1) a1 b1 i (hoV_0 hV hVl) (by omega) (by omega) (by omega) (by omega) (by omega) (by decide)) 4 [4, 5, 6, 7, 8, 9, 10, 11, 12, 13] [0, 1, 2, 3] rfl rfl ⟨by decide, by decide, by decide⟩ ww_Worker_60 (by decide +kernel) rfl ⟨Nat.le_of_ble_eq_true rfl, Nat.le_of_ble_eq_true rfl⟩ ⟨Nat.le_of_ble_eq_true rfl, Nat.le_of_ble_eq_true rfl⟩ rfl rfl rfl rfl (Nat.le_of_ble_eq_true rfl) dX6_work_199 (fun v_ w1_ hp => ?_)
            obtain ⟨an2, rfl, rfl, hn1, hn2⟩ := hp
            show Z X (0) (0) (plw E rp SP ++ wkw E r (rs 0) (mwv S ((evL SS ro (G.take i) ([], 0)).2) (bI ((evL SS ro (G.take i) ([], 0)).1.any (·.2))) va' an2) ++ sw E rs SS) [(0, .ref (r 0)), (1, .ref (rp 0)), (2, .int (nI ro)), (3, .int (nI i)), (4, .int (nI a1)), (5, .int (nI b1))] 202 [.long ((evP 47 (gV ((evL SS ro (G.take i) ([], 0)).1) (nI a1)) (gV ((evL SS ro (G.take i) ([], 0)).1) (nI b1))).1), .int (nI i), .ref (r 1)]
            refine z_lastN (pc := 202) (ws' := plw E rp SP ++ wkw E r (rs 0) (mwv S ((evL SS ro (G.take i) ([], 0)).2) (bI ((evL SS ro (G.take i) ([], 0)).1.any (·.2))) (vp_updL va' i ((evP 47 (gV ((evL SS ro (G.take i) ([], 0)).1) (nI a1)) (gV ((evL SS ro (G.take i) ([], 0)).1) (nI b1))).1)) an2) ++ sw E rs SS) (f := va') F 5 1 rfl rfl i rfl (by omega) (by decide) dX6_work_202 rfl ?_
            refine z_locals (lv' := [(0, .ref (r 0)), (1, .ref (rp 0)), (2, .int (nI ro)), (3, .int (nI i))]) [0, 1, 2, 3] rfl ?_; exact J203 _ _ _ _ ((evL_take SS ro hx ([], 0)).trans (evS_of (evN_p (by decide)))) (hoV_add hV hVl.symm rfl (fun q hq => by rw [hn1 q hq]; exact upd_lt q hq) (hn2 pk_us))
          · refine z_lookup (off := 127) (tgt := 182) (pc := 55) F dX6_work_55 (by decide) (by decide) (by decide) ?_
            refine z_aload_n (pc := 182) F dX6_work_182 rfl 0 rfl ?_
            refine z_get (pc := 183) (v := .ref (r 1)) F iX6 4 rfl rfl 1 (by decide) tw_166 rfl dX6_work_183 ?_
            refine z_iload_n (pc := 186) F dX6_work_186 rfl 3 rfl ?_
            refine z_aload_n (pc := 187) F dX6_work_187 rfl 0 rfl ?_
            refine z_aload_n (pc := 188) F dX6_work_188 rfl 1 rfl ?_
            refine z_getN (pc := 189) (v := .ref (rp 1)) F iX2 0 rfl rfl 0 (by decide) nw_193 rfl dX6_work_189 ?_
            refine z_iload_n (pc := 192) F dX6_work_192 rfl 3 rfl ?_
            refine z_caldN (pc := 193) (f := za SP 1) F 1 3 rfl rfl i rfl (by omega) (by decide) dX6_work_193 ?_
            rw [show (za SP 1 i) = nI 95 from hGx.1]
            refine z_iload (pc := 194) F dX6_work_194 4 rfl ?_
            refine z_iload (pc := 196) F dX6_work_196 5 rfl ?_
            refine z_iload_n (pc := 198) F dX6_work_198 rfl 3 rfl ?_
            refine z_callV (pc := 199) (q0 := 4) (ci := 6) (wr := plw E rp SP) (rest := [.int (nI i), .ref (r 1)]) F (c_X6_workPair l E r rs S SS ((evL SS ro (G.take i) ([], 0)).2) (bI ((evL SS ro (G.take i) ([], 0)).1.any (·.2))) va' (upd an' i 0) 95 ((evL SS ro (G.take i) ([], 0)).1) a1 b1 i (hoV_0 hV hVl) (by omega) (by omega) (by omega) (by omega) (by omega) (by decide)) 4 [4, 5, 6, 7, 8, 9, 10, 11, 12, 13] [0, 1, 2, 3] rfl rfl ⟨by decide, by decide, by decide⟩ ww_Worker_60 (by decide +kernel) rfl ⟨Nat.le_of_ble_eq_true rfl, Nat.le_of_ble_eq_true rfl⟩ ⟨Nat.le_of_ble_eq_true rfl, Nat.le_of_ble_eq_true rfl⟩ rfl rfl rfl rfl (Nat.le_of_ble_eq_true rfl) dX6_work_199 (fun v_ w1_ hp => ?_)
            obtain ⟨an2, rfl, rfl, hn1, hn2⟩ := hp
            show Z X (0) (0) (plw E rp SP ++ wkw E r (rs 0) (mwv S ((evL SS ro (G.take i) ([], 0)).2) (bI ((evL SS ro (G.take i) ([], 0)).1.any (·.2))) va' an2) ++ sw E rs SS) [(0, .ref (r 0)), (1, .ref (rp 0)), (2, .int (nI ro)), (3, .int (nI i)), (4, .int (nI a1)), (5, .int (nI b1))] 202 [.long ((evP 95 (gV ((evL SS ro (G.take i) ([], 0)).1) (nI a1)) (gV ((evL SS ro (G.take i) ([], 0)).1) (nI b1))).1), .int (nI i), .ref (r 1)]
            refine z_lastN (pc := 202) (ws' := plw E rp SP ++ wkw E r (rs 0) (mwv S ((evL SS ro (G.take i) ([], 0)).2) (bI ((evL SS ro (G.take i) ([], 0)).1.any (·.2))) (vp_updL va' i ((evP 95 (gV ((evL SS ro (G.take i) ([], 0)).1) (nI a1)) (gV ((evL SS ro (G.take i) ([], 0)).1) (nI b1))).1)) an2) ++ sw E rs SS) (f := va') F 5 1 rfl rfl i rfl (by omega) (by decide) dX6_work_202 rfl ?_
            refine z_locals (lv' := [(0, .ref (r 0)), (1, .ref (rp 0)), (2, .int (nI ro)), (3, .int (nI i))]) [0, 1, 2, 3] rfl ?_; exact J203 _ _ _ _ ((evL_take SS ro hx ([], 0)).trans (evS_of (evN_p (by decide)))) (hoV_add hV hVl.symm rfl (fun q hq => by rw [hn1 q hq]; exact upd_lt q hq) (hn2 pk_us))
          · refine z_lookup (off := 127) (tgt := 182) (pc := 55) F dX6_work_55 (by decide) (by decide) (by decide) ?_
            refine z_aload_n (pc := 182) F dX6_work_182 rfl 0 rfl ?_
            refine z_get (pc := 183) (v := .ref (r 1)) F iX6 4 rfl rfl 1 (by decide) tw_166 rfl dX6_work_183 ?_
            refine z_iload_n (pc := 186) F dX6_work_186 rfl 3 rfl ?_
            refine z_aload_n (pc := 187) F dX6_work_187 rfl 0 rfl ?_
            refine z_aload_n (pc := 188) F dX6_work_188 rfl 1 rfl ?_
            refine z_getN (pc := 189) (v := .ref (rp 1)) F iX2 0 rfl rfl 0 (by decide) nw_193 rfl dX6_work_189 ?_
            refine z_iload_n (pc := 192) F dX6_work_192 rfl 3 rfl ?_
            refine z_caldN (pc := 193) (f := za SP 1) F 1 3 rfl rfl i rfl (by omega) (by decide) dX6_work_193 ?_
            rw [show (za SP 1 i) = nI 61 from hGx.1]
            refine z_iload (pc := 194) F dX6_work_194 4 rfl ?_
            refine z_iload (pc := 196) F dX6_work_196 5 rfl ?_
            refine z_iload_n (pc := 198) F dX6_work_198 rfl 3 rfl ?_
            refine z_callV (pc := 199) (q0 := 4) (ci := 6) (wr := plw E rp SP) (rest := [.int (nI i), .ref (r 1)]) F (c_X6_workPair l E r rs S SS ((evL SS ro (G.take i) ([], 0)).2) (bI ((evL SS ro (G.take i) ([], 0)).1.any (·.2))) va' (upd an' i 0) 61 ((evL SS ro (G.take i) ([], 0)).1) a1 b1 i (hoV_0 hV hVl) (by omega) (by omega) (by omega) (by omega) (by omega) (by decide)) 4 [4, 5, 6, 7, 8, 9, 10, 11, 12, 13] [0, 1, 2, 3] rfl rfl ⟨by decide, by decide, by decide⟩ ww_Worker_60 (by decide +kernel) rfl ⟨Nat.le_of_ble_eq_true rfl, Nat.le_of_ble_eq_true rfl⟩ ⟨Nat.le_of_ble_eq_true rfl, Nat.le_of_ble_eq_true rfl⟩ rfl rfl rfl rfl (Nat.le_of_ble_eq_true rfl) dX6_work_199 (fun v_ w1_ hp => ?_)
            obtain ⟨an2, rfl, rfl, hn1, hn2⟩ := hp
            show Z X (0) (0) (plw E rp SP ++ wkw E r (rs 0) (mwv S ((evL SS ro (G.take i) ([], 0)).2) (bI ((evL SS ro (G.take i) ([], 0)).1.any (·.2))) va' an2) ++ sw E rs SS) [(0, .ref (r 0)), (1, .ref (rp 0)), (2, .int (nI ro)), (3, .int (nI i)), (4, .int (nI a1)), (5, .int (nI b1))] 202 [.long ((evP 61 (gV ((evL SS ro (G.take i) ([], 0)).1) (nI a1)) (gV ((evL SS ro (G.take i) ([], 0)).1) (nI b1))).1), .int (nI i), .ref (r 1)]
            refine z_lastN (pc := 202) (ws' := plw E rp SP ++ wkw E r (rs 0) (mwv S ((evL SS ro (G.take i) ([], 0)).2) (bI ((evL SS ro (G.take i) ([], 0)).1.any (·.2))) (vp_updL va' i ((evP 61 (gV ((evL SS ro (G.take i) ([], 0)).1) (nI a1)) (gV ((evL SS ro (G.take i) ([], 0)).1) (nI b1))).1)) an2) ++ sw E rs SS) (f := va') F 5 1 rfl rfl i rfl (by omega) (by decide) dX6_work_202 rfl ?_
            refine z_locals (lv' := [(0, .ref (r 0)), (1, .ref (rp 0)), (2, .int (nI ro)), (3, .int (nI i))]) [0, 1, 2, 3] rfl ?_; exact J203 _ _ _ _ ((evL_take SS ro hx ([], 0)).trans (evS_of (evN_p (by decide)))) (hoV_add hV hVl.symm rfl (fun q hq => by rw [hn1 q hq]; exact upd_lt q hq) (hn2 pk_us))
          · refine z_lookup (off := 127) (tgt := 182) (pc := 55) F dX6_work_55 (by decide) (by decide) (by decide) ?_
            refine z_aload_n (pc := 182) F dX6_work_182 rfl 0 rfl ?_
            refine z_get (pc := 183) (v := .ref (r 1)) F iX6 4 rfl rfl 1 (by decide) tw_166 rfl dX6_work_183 ?_
            refine z_iload_n (pc := 186) F dX6_work_186 rfl 3 rfl ?_
            refine z_aload_n (pc := 187) F dX6_work_187 rfl 0 rfl ?_
            refine z_aload_n (pc := 188) F dX6_work_188 rfl 1 rfl ?_
            refine z_getN (pc := 189) (v := .ref (rp 1)) F iX2 0 rfl rfl 0 (by decide) nw_193 rfl dX6_work_189 ?_
            refine z_iload_n (pc := 192) F dX6_work_192 rfl 3 rfl ?_
            refine z_caldN (pc := 193) (f := za SP 1) F 1 3 rfl rfl i rfl (by omega) (by decide) dX6_work_193 ?_
            rw [show (za SP 1 i) = nI 35 from hGx.1]
            refine z_iload (pc := 194) F dX6_work_194 4 rfl ?_
            refine z_iload (pc := 196) F dX6_work_196 5 rfl ?_
            refine z_iload_n (pc := 198) F dX6_work_198 rfl 3 rfl ?_
            refine z_callV (pc := 199) (q0 := 4) (ci := 6) (wr := plw E rp SP) (rest := [.int (nI i), .ref (r 1)]) F (c_X6_workPair l E r rs S SS ((evL SS ro (G.take i) ([], 0)).2) (bI ((evL SS ro (G.take i) ([], 0)).1.any (·.2))) va' (upd an' i 0) 35 ((evL SS ro (G.take i) ([], 0)).1) a1 b1 i (hoV_0 hV hVl) (by omega) (by omega) (by omega) (by omega) (by omega) (by decide)) 4 [4, 5, 6, 7, 8, 9, 10, 11, 12, 13] [0, 1, 2, 3] rfl rfl ⟨by decide, by decide, by decide⟩ ww_Worker_60 (by decide +kernel) rfl ⟨Nat.le_of_ble_eq_true rfl, Nat.le_of_ble_eq_true rfl⟩ ⟨Nat.le_of_ble_eq_true rfl, Nat.le_of_ble_eq_true rfl⟩ rfl rfl rfl rfl (Nat.le_of_ble_eq_true rfl) dX6_work_199 (fun v_ w1_ hp => ?_)
            obtain ⟨an2, rfl, rfl, hn1, hn2⟩ := hp
            show Z X (0) (0) (plw E rp SP ++ wkw E r (rs 0) (mwv S ((evL SS ro (G.take i) ([], 0)).2) (bI ((evL SS ro (G.take i) ([], 0)).1.any (·.2))) va' an2) ++ sw E rs SS) [(0, .ref (r 0)), (1, .ref (rp 0)), (2, .int (nI ro)), (3, .int (nI i)), (4, .int (nI a1)), (5, .int (nI b1))] 202 [.long ((evP 35 (gV ((evL SS ro (G.take i) ([], 0)).1) (nI a1)) (gV ((evL SS ro (G.take i) ([], 0)).1) (nI b1))).1), .int (nI i), .ref (r 1)]
            refine z_lastN (pc := 202) (ws' := plw E rp SP ++ wkw E r (rs 0) (mwv S ((evL SS ro (G.take i) ([], 0)).2) (bI ((evL SS ro (G.take i) ([], 0)).1.any (·.2))) (vp_updL va' i ((evP 35 (gV ((evL SS ro (G.take i) ([], 0)).1) (nI a1)) (gV ((evL SS ro (G.take i) ([], 0)).1) (nI b1))).1)) an2) ++ sw E rs SS) (f := va') F 5 1 rfl rfl i rfl (by omega) (by decide) dX6_work_202 rfl ?_
            refine z_locals (lv' := [(0, .ref (r 0)), (1, .ref (rp 0)), (2, .int (nI ro)), (3, .int (nI i))]) [0, 1, 2, 3] rfl ?_; exact J203 _ _ _ _ ((evL_take SS ro hx ([], 0)).trans (evS_of (evN_p (by decide)))) (hoV_add hV hVl.symm rfl (fun q hq => by rw [hn1 q hq]; exact upd_lt q hq) (hn2 pk_us))
          · refine z_lookup (off := 127) (tgt := 182) (pc := 55) F dX6_work_55 (by decide) (by decide) (by decide) ?_
            refine z_aload_n (pc := 182) F dX6_work_182 rfl 0 rfl ?_
            refine z_get (pc := 183) (v := .ref (r 1)) F iX6 4 rfl rfl 1 (by decide) tw_166 rfl dX6_work_183 ?_
            refine z_iload_n (pc := 186) F dX6_work_186 rfl 3 rfl ?_
            refine z_aload_n (pc := 187) F dX6_work_187 rfl 0 rfl ?_
            refine z_aload_n (pc := 188) F dX6_work_188 rfl 1 rfl ?_
            refine z_getN (pc := 189) (v := .ref (rp 1)) F iX2 0 rfl rfl 0 (by decide) nw_193 rfl dX6_work_189 ?_
            refine z_iload_n (pc := 192) F dX6_work_192 rfl 3 rfl ?_
            refine z_caldN (pc := 193) (f := za SP 1) F 1 3 rfl rfl i rfl (by omega) (by decide) dX6_work_193 ?_
            rw [show (za SP 1 i) = nI 60 from hGx.1]
            refine z_iload (pc := 194) F dX6_work_194 4 rfl ?_
            refine z_iload (pc := 196) F dX6_work_196 5 rfl ?_
            refine z_iload_n (pc := 198) F dX6_work_198 rfl 3 rfl ?_
            refine z_callV (pc := 199) (q0 := 4) (ci := 6) (wr := plw E rp SP) (rest := [.int (nI i), .ref (r 1)]) F (c_X6_workPair l E r rs S SS ((evL SS ro (G.take i) ([], 0)).2) (bI ((evL SS ro (G.take i) ([], 0)).1.any (·.2))) va' (upd an' i 0) 60 ((evL SS ro (G.take i) ([], 0)).1) a1 b1 i (hoV_0 hV hVl) (by omega) (by omega) (by omega) (by omega) (by omega) (by decide)) 4 [4, 5, 6, 7, 8, 9, 10, 11, 12, 13] [0, 1, 2, 3] rfl rfl ⟨by decide, by decide, by decide⟩ ww_Worker_60 (by decide +kernel) rfl ⟨Nat.le_of_ble_eq_true rfl, Nat.le_of_ble_eq_true rfl⟩ ⟨Nat.le_of_ble_eq_true rfl, Nat.le_of_ble_eq_true rfl⟩ rfl rfl rfl rfl (Nat.le_of_ble_eq_true rfl) dX6_work_199 (fun v_ w1_ hp => ?_)
            obtain ⟨an2, rfl, rfl, hn1, hn2⟩ := hp
            show Z X (0) (0) (plw E rp SP ++ wkw E r (rs 0) (mwv S ((evL SS ro (G.take i) ([], 0)).2) (bI ((evL SS ro (G.take i) ([], 0)).1.any (·.2))) va' an2) ++ sw E rs SS) [(0, .ref (r 0)), (1, .ref (rp 0)), (2, .int (nI ro)), (3, .int (nI i)), (4, .int (nI a1)), (5, .int (nI b1))] 202 [.long ((evP 60 (gV ((evL SS ro (G.take i) ([], 0)).1) (nI a1)) (gV ((evL SS ro (G.take i) ([], 0)).1) (nI b1))).1), .int (nI i), .ref (r 1)]
            refine z_lastN (pc := 202) (ws' := plw E rp SP ++ wkw E r (rs 0) (mwv S ((evL SS ro (G.take i) ([], 0)).2) (bI ((evL SS ro (G.take i) ([], 0)).1.any (·.2))) (vp_updL va' i ((evP 60 (gV ((evL SS ro (G.take i) ([], 0)).1) (nI a1)) (gV ((evL SS ro (G.take i) ([], 0)).1) (nI b1))).1)) an2) ++ sw E rs SS) (f := va') F 5 1 rfl rfl i rfl (by omega) (by decide) dX6_work_202 rfl ?_
            refine z_locals (lv' := [(0, .ref (r 0)), (1, .ref (rp 0)), (2, .int (nI ro)), (3, .int (nI i))]) [0, 1, 2, 3] rfl ?_; exact J203 _ _ _ _ ((evL_take SS ro hx ([], 0)).trans (evS_of (evN_p (by decide)))) (hoV_add hV hVl.symm rfl (fun q hq => by rw [hn1 q hq]; exact upd_lt q hq) (hn2 pk_us))
          · refine z_lookup (off := 127) (tgt := 182) (pc := 55) F dX6_work_55 (by decide) (by decide) (by decide) ?_
            refine z_aload_n (pc := 182) F dX6_work_182 rfl 0 rfl ?_
            refine z_get (pc := 183) (v := .ref (r 1)) F iX6 4 rfl rfl 1 (by decide) tw_166 rfl dX6_work_183 ?_
            refine z_iload_n (pc := 186) F dX6_work_186 rfl 3 rfl ?_
            refine z_aload_n (pc := 187) F dX6_work_187 rfl 0 rfl ?_
            refine z_aload_n (pc := 188) F dX6_work_188 rfl 1 rfl ?_
            refine z_getN (pc := 189) (v := .ref (rp 1)) F iX2 0 rfl rfl 0 (by decide) nw_193 rfl dX6_work_189 ?_
            refine z_iload_n (pc := 192) F dX6_work_192 rfl 3 rfl ?_
            refine z_caldN (pc := 193) (f := za SP 1) F 1 3 rfl rfl i rfl (by omega) (by decide) dX6_work_193 ?_
            rw [show (za SP 1 i) = nI 62 from hGx.1]
            refine z_iload (pc := 194) F dX6_work_194 4 rfl ?_
            refine z_iload (pc := 196) F dX6_work_196 5 rfl ?_
            refine z_iload_n (pc := 198) F dX6_work_198 rfl 3 rfl ?_
            refine z_callV (pc := 199) (q0 := 4) (ci := 6) (wr := plw E rp SP) (rest := [.int (nI i), .ref (r 1)]) F (c_X6_workPair l E r rs S SS ((evL SS ro (G.take i) ([], 0)).2) (bI ((evL SS ro (G.take i) ([], 0)).1.any (·.2))) va' (upd an' i 0) 62 ((evL SS ro (G.take i) ([], 0)).1) a1 b1 i (hoV_0 hV hVl) (by omega) (by omega) (by omega) (by omega) (by omega) (by decide)) 4 [4, 5, 6, 7, 8, 9, 10, 11, 12, 13] [0, 1, 2, 3] rfl rfl ⟨by decide, by decide, by decide⟩ ww_Worker_60 (by decide +kernel) rfl ⟨Nat.le_of_ble_eq_true rfl, Nat.le_of_ble_eq_true rfl⟩ ⟨Nat.le_of_ble_eq_true rfl, Nat.le_of_ble_eq_true rfl⟩ rfl rfl rfl rfl (Nat.le_of_ble_eq_true rfl) dX6_work_199 (fun v_ w1_ hp => ?_)
            obtain ⟨an2, rfl, rfl, hn1, hn2⟩ := hp
            show Z X (0) (0) (plw E rp SP ++ wkw E r (rs 0) (mwv S ((evL SS ro (G.take i) ([], 0)).2) (bI ((evL SS ro (G.take i) ([], 0)).1.any (·.2))) va' an2) ++ sw E rs SS) [(0, .ref (r 0)), (1, .ref (rp 0)), (2, .int (nI ro)), (3, .int (nI i)), (4, .int (nI a1)), (5, .int (nI b1))] 202 [.long ((evP 62 (gV ((evL SS ro (G.take i) ([], 0)).1) (nI a1)) (gV ((evL SS ro (G.take i) ([], 0)).1) (nI b1))).1), .int (nI i), .ref (r 1)]
            refine z_lastN (pc := 202) (ws' := plw E rp SP ++ wkw E r (rs 0) (mwv S ((evL SS ro (G.take i) ([], 0)).2) (bI ((evL SS ro (G.take i) ([], 0)).1.any (·.2))) (vp_updL va' i ((evP 62 (gV ((evL SS ro (G.take i) ([], 0)).1) (nI a1)) (gV ((evL SS ro (G.take i) ([], 0)).1) (nI b1))).1)) an2) ++ sw E rs SS) (f := va') F 5 1 rfl rfl i rfl (by omega) (by decide) dX6_work_202 rfl ?_
            refine z_locals (lv' := [(0, .ref (r 0)), (1, .ref (rp 0)), (2, .int (nI ro)), (3, .int (nI i))]) [0, 1, 2, 3] rfl ?_; exact J203 _ _ _ _ ((evL_take SS ro hx ([], 0)).trans (evS_of (evN_p (by decide)))) (hoV_add hV hVl.symm rfl (fun q hq => by rw [hn1 q hq]; exact upd_lt q hq) (hn2 pk_us))
          · refine z_lookup (off := 127) (tgt := 182) (pc := 55) F dX6_work_55 (by decide) (by decide) (by decide) ?_
            refine z_aload_n (pc := 182) F dX6_work_182 rfl 0 rfl ?_
            refine z_get (pc := 183) (v := .ref (r 1)) F iX6 4 rfl rfl 1 (by decide) tw_166 rfl dX6_work_183 ?_
            refine z_iload_n (pc := 186) F dX6_work_186 rfl 3 rfl ?_
            refine z_aload_n (pc := 187) F dX6_work_187 rfl 0 rfl ?_
            refine z_aload_n (pc := 188) F dX6_work_188 rfl 1 rfl ?_
            refine z_getN (pc := 189) (v := .ref (rp 1)) F iX2 0 rfl rfl 0 (by decide) nw_193 rfl dX6_work_189 ?_
            refine z_iload_n (pc := 192) F dX6_work_192 rfl 3 rfl ?_
            refine z_caldN (pc := 193) (f := za SP 1) F 1 3 rfl rfl i rfl (by omega) (by decide) dX6_work_193 ?_
            rw [show (za SP 1 i) = nI 38 from hGx.1]
            refine z_iload (pc := 194) F dX6_work_194 4 rfl ?_
            refine z_iload (pc := 196) F dX6_work_196 5 rfl ?_
            refine z_iload_n (pc := 198) F dX6_work_198 rfl 3 rfl ?_
            refine z_callV (pc := 199) (q0 := 4) (ci := 6) (wr := plw E rp SP) (rest := [.int (nI i), .ref (r 1)]) F (c_X6_workPair l E r rs S SS ((evL SS ro (G.take i) ([], 0)).2) (bI ((evL SS ro (G.take i) ([], 0)).1.any (·.2))) va' (upd an' i 0) 38 ((evL SS ro (G.take i) ([], 0)).1) a1 b1 i (hoV_0 hV hVl) (by omega) (by omega) (by omega) (by omega) (by omega) (by decide)) 4 [4, 5, 6, 7, 8, 9, 10, 11, 12, 13] [0, 1, 2, 3] rfl rfl ⟨by decide, by decide, by decide⟩ ww_Worker_60 (by decide +kernel) rfl ⟨Nat.le_of_ble_eq_true rfl, Nat.le_of_ble_eq_true rfl⟩ ⟨Nat.le_of_ble_eq_true rfl, Nat.le_of_ble_eq_true rfl⟩ rfl rfl rfl rfl (Nat.le_of_ble_eq_true rfl) dX6_work_199 (fun v_ w1_ hp => ?_)
            obtain ⟨an2, rfl, rfl, hn1, hn2⟩ := hp
            show Z X (0) (0) (plw E rp SP ++ wkw E r (rs 0) (mwv S ((evL SS ro (G.take i) ([], 0)).2) (bI ((evL SS ro (G.take i) ([], 0)).1.any (·.2))) va' an2) ++ sw E rs SS) [(0, .ref (r 0)), (1, .ref (rp 0)), (2, .int (nI ro)), (3, .int (nI i)), (4, .int (nI a1)), (5, .int (nI b1))] 202 [.long ((evP 38 (gV ((evL SS ro (G.take i) ([], 0)).1) (nI a1)) (gV ((evL SS ro (G.take i) ([], 0)).1) (nI b1))).1), .int (nI i), .ref (r 1)]
            refine z_lastN (pc := 202) (ws' := plw E rp SP ++ wkw E r (rs 0) (mwv S ((evL SS ro (G.take i) ([], 0)).2) (bI ((evL SS ro (G.take i) ([], 0)).1.any (·.2))) (vp_updL va' i ((evP 38 (gV ((evL SS ro (G.take i) ([], 0)).1) (nI a1)) (gV ((evL SS ro (G.take i) ([], 0)).1) (nI b1))).1)) an2) ++ sw E rs SS) (f := va') F 5 1 rfl rfl i rfl (by omega) (by decide) dX6_work_202 rfl ?_
            refine z_locals (lv' := [(0, .ref (r 0)), (1, .ref (rp 0)), (2, .int (nI ro)), (3, .int (nI i))]) [0, 1, 2, 3] rfl ?_; exact J203 _ _ _ _ ((evL_take SS ro hx ([], 0)).trans (evS_of (evN_p (by decide)))) (hoV_add hV hVl.symm rfl (fun q hq => by rw [hn1 q hq]; exact upd_lt q hq) (hn2 pk_us))
          · refine z_lookup (off := 127) (tgt := 182) (pc := 55) F dX6_work_55 (by decide) (by decide) (by decide) ?_
            refine z_aload_n (pc := 182) F dX6_work_182 rfl 0 rfl ?_
            refine z_get (pc := 183) (v := .ref (r 1)) F iX6 4 rfl rfl 1 (by decide) tw_166 rfl dX6_work_183 ?_
            refine z_iload_n (pc := 186) F dX6_work_186 rfl 3 rfl ?_
            refine z_aload_n (pc := 187) F dX6_work_187 rfl 0 rfl ?_
            refine z_aload_n (pc := 188) F dX6_work_188 rfl 1 rfl ?_
            refine z_getN (pc := 189) (v := .ref (rp 1)) F iX2 0 rfl rfl 0 (by decide) nw_193 rfl dX6_work_189 ?_
            refine z_iload_n (pc := 192) F dX6_work_192 rfl 3 rfl ?_
            refine z_caldN (pc := 193) (f := za SP 1) F 1 3 rfl rfl i rfl (by omega) (by decide) dX6_work_193 ?_
            rw [show (za SP 1 i) = nI 124 from hGx.1]
            refine z_iload (pc := 194) F dX6_work_194 4 rfl ?_
            refine z_iload (pc := 196) F dX6_work_196 5 rfl ?_
            refine z_iload_n (pc := 198) F dX6_work_198 rfl 3 rfl ?_
            refine z_callV (pc := 199) (q0 := 4) (ci := 6) (wr := plw E rp SP) (rest := [.int (nI i), .ref (r 1)]) F (c_X6_workPair l E r rs S SS ((evL SS ro (G.take i) ([], 0)).2) (bI ((evL SS ro (G.take i) ([], 0)).1.any (·.2))) va' (upd an' i 0) 124 ((evL SS ro (G.take i) ([], 0)).1) a1 b1 i (hoV_0 hV hVl) (by omega) (by omega) (by omega) (by omega) (by omega) (by decide)) 4 [4, 5, 6, 7, 8, 9, 10, 11, 12, 13] [0, 1, 2, 3] rfl rfl ⟨by decide, by decide, by decide⟩ ww_Worker_60 (by decide +kernel) rfl ⟨Nat.le_of_ble_eq_true rfl, Nat.le_of_ble_eq_true rfl⟩ ⟨Nat.le_of_ble_eq_true rfl, Nat.le_of_ble_eq_true rfl⟩ rfl rfl rfl rfl (Nat.le_of_ble_eq_true rfl) dX6_work_199 (fun v_ w1_ hp => ?_)
            obtain ⟨an2, rfl, rfl, hn1, hn2⟩ := hp
            show Z X (0) (0) (plw E rp SP ++ wkw E r (rs 0) (mwv S ((evL SS ro (G.take i) ([], 0)).2) (bI ((evL SS ro (G.take i) ([], 0)).1.any (·.2))) va' an2) ++ sw E rs SS) [(0, .ref (r 0)), (1, .ref (rp 0)), (2, .int (nI ro)), (3, .int (nI i)), (4, .int (nI a1)), (5, .int (nI b1))] 202 [.long ((evP 124 (gV ((evL SS ro (G.take i) ([], 0)).1) (nI a1)) (gV ((evL SS ro (G.take i) ([], 0)).1) (nI b1))).1), .int (nI i), .ref (r 1)]
            refine z_lastN (pc := 202) (ws' := plw E rp SP ++ wkw E r (rs 0) (mwv S ((evL SS ro (G.take i) ([], 0)).2) (bI ((evL SS ro (G.take i) ([], 0)).1.any (·.2))) (vp_updL va' i ((evP 124 (gV ((evL SS ro (G.take i) ([], 0)).1) (nI a1)) (gV ((evL SS ro (G.take i) ([], 0)).1) (nI b1))).1)) an2) ++ sw E rs SS) (f := va') F 5 1 rfl rfl i rfl (by omega) (by decide) dX6_work_202 rfl ?_
            refine z_locals (lv' := [(0, .ref (r 0)), (1, .ref (rp 0)), (2, .int (nI ro)), (3, .int (nI i))]) [0, 1, 2, 3] rfl ?_; exact J203 _ _ _ _ ((evL_take SS ro hx ([], 0)).trans (evS_of (evN_p (by decide)))) (hoV_add hV hVl.symm rfl (fun q hq => by rw [hn1 q hq]; exact upd_lt q hq) (hn2 pk_us))
          · refine z_lookup (off := 127) (tgt := 182) (pc := 55) F dX6_work_55 (by decide) (by decide) (by decide) ?_
            refine z_aload_n (pc := 182) F dX6_work_182 rfl 0 rfl ?_
            refine z_get (pc := 183) (v := .ref (r 1)) F iX6 4 rfl rfl 1 (by decide) tw_166 rfl dX6_work_183 ?_
            refine z_iload_n (pc := 186) F dX6_work_186 rfl 3 rfl ?_
            refine z_aload_n (pc := 187) F dX6_work_187 rfl 0 rfl ?_
            refine z_aload_n (pc := 188) F dX6_work_188 rfl 1 rfl ?_
            refine z_getN (pc := 189) (v := .ref (rp 1)) F iX2 0 rfl rfl 0 (by decide) nw_193 rfl dX6_work_189 ?_
            refine z_iload_n (pc := 192) F dX6_work_192 rfl 3 rfl ?_
            refine z_caldN (pc := 193) (f := za SP 1) F 1 3 rfl rfl i rfl (by omega) (by decide) dX6_work_193 ?_
            rw [show (za SP 1 i) = nI 33 from hGx.1]
            refine z_iload (pc := 194) F dX6_work_194 4 rfl ?_
            refine z_iload (pc := 196) F dX6_work_196 5 rfl ?_
            refine z_iload_n (pc := 198) F dX6_work_198 rfl 3 rfl ?_
            refine z_callV (pc := 199) (q0 := 4) (ci := 6) (wr := plw E rp SP) (rest := [.int (nI i), .ref (r 1)]) F (c_X6_workPair l E r rs S SS ((evL SS ro (G.take i) ([], 0)).2) (bI ((evL SS ro (G.take i) ([], 0)).1.any (·.2))) va' (upd an' i 0) 33 ((evL SS ro (G.take i) ([], 0)).1) a1 b1 i (hoV_0 hV hVl) (by omega) (by omega) (by omega) (by omega) (by omega) (by decide)) 4 [4, 5, 6, 7, 8, 9, 10, 11, 12, 13] [0, 1, 2, 3] rfl rfl ⟨by decide, by decide, by decide⟩ ww_Worker_60 (by decide +kernel) rfl ⟨Nat.le_of_ble_eq_true rfl, Nat.le_of_ble_eq_true rfl⟩ ⟨Nat.le_of_ble_eq_true rfl, Nat.le_of_ble_eq_true rfl⟩ rfl rfl rfl rfl (Nat.le_of_ble_eq_true rfl) dX6_work_199 (fun v_ w1_ hp => ?_)
            obtain ⟨an2, rfl, rfl, hn1, hn2⟩ := hp
            show Z X (0) (0) (plw E rp SP ++ wkw E r (rs 0) (mwv S ((evL SS ro (G.take i) ([], 0)).2) (bI ((evL SS ro (G.take i) ([], 0)).1.any (·.2))) va' an2) ++ sw E rs SS) [(0, .ref (r 0)), (1, .ref (rp 0)), (2, .int (nI ro)), (3, .int (nI i)), (4, .int (nI a1)), (5, .int (nI b1))] 202 [.long ((evP 33 (gV ((evL SS ro (G.take i) ([], 0)).1) (nI a1)) (gV ((evL SS ro (G.take i) ([], 0)).1) (nI b1))).1), .int (nI i), .ref (r 1)]
            refine z_lastN (pc := 202) (ws' := plw E rp SP ++ wkw E r (rs 0) (mwv S ((evL SS ro (G.take i) ([], 0)).2) (bI ((evL SS ro (G.take i) ([], 0)).1.any (·.2))) (vp_updL va' i ((evP 33 (gV ((evL SS ro (G.take i) ([], 0)).1) (nI a1)) (gV ((evL SS ro (G.take i) ([], 0)).1) (nI b1))).1)) an2) ++ sw E rs SS) (f := va') F 5 1 rfl rfl i rfl (by omega) (by decide) dX6_work_202 rfl ?_
            refine z_locals (lv' := [(0, .ref (r 0)), (1, .ref (rp 0)), (2, .int (nI ro)), (3, .int (nI i))]) [0, 1, 2, 3] rfl ?_; exact J203 _ _ _ _ ((evL_take SS ro hx ([], 0)).trans (evS_of (evN_p (by decide)))) (hoV_add hV hVl.symm rfl (fun q hq => by rw [hn1 q hq]; exact upd_lt q hq) (hn2 pk_us))
  exact L12 _ 0 va an (Nat.lt_succ_self _) (Nat.zero_le _) (fun i y h => by simp [evL] at h)

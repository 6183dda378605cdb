set_option maxHeartbeats 4000000 in
set_option maxRecDepth 100000 in
theorem c_X8_type_b (l : Launch) (E : zE) (r : Nat → Nat) (S : zS) (tp : Nat) (w : Int64) (nn : Nat) (htp : zi S 1 = nI tp) (ht8 : tp ≤ 80) (h1 : 1 ≤ nn) (h8 : nn ≤ 8) (hs : tp + nn ≤ 80) (hbad : ∃ j : Nat, j < nn ∧ okB w j = false) : Ct l yX8_type cX8_type 6 (some .boolean) ({ frames := 0, cells := 0, slots := 0, locals := 0 } : Room) E (mw E r S) [.ref (r 0), .long w, .int (nI nn)] (fun v_ w_ => v_ = some (.int (bI false)) ∧ w_ = mw E r (mty (zI S 0 0) (nI tp) (za S 1))) := by
  refine Ct.of (by decide) (Nat.le_of_ble_eq_true rfl) (lv := [(0, .ref (r 0)), (1, .long w), (3, .int (nI nn))]) rfl ?_
  intro X F hR
  have F : zF X l ({ frames := 0, cells := 0, slots := 0, locals := 0 } : Room) E cX8_type 6 "LiveQueriesModel" := F
  show Z X 0 0 (mw E r (mty S (zi S 1) (za S 1))) [(0, .ref (r 0)), (1, .long w), (3, .int (nI nn))] 0 []
  rw [htp]
  refine z_aload_n (pc := 0) F dX8_type_0 rfl 0 rfl ?_
  refine z_iconst (pc := 1) (v := 0) F dX8_type_1 (by decide) ?_
  refine z_put (pc := 2) (ws' := mw E r (mty (zI S 0 0) (nI tp) (za S 1))) F iX8 tyX8 tyX8_ok nmX8 0 rfl rfl 0 (by decide) tw_858 rfl rfl rfl (Nat.le_of_ble_eq_true rfl) dX8_type_2 rfl ?_
  refine z_iload_n (pc := 5) F dX8_type_5 rfl 2 rfl ?_
  refine z_iconst (pc := 6) (v := 1) F dX8_type_6 (by decide) ?_
  refine z_icmp_lt (pc := 7) (tgt := 27) F dX8_type_7 (by decide) (fun c7 => absurd c7 (fun h => absurd ((nI_ltI (b := 1) (by omega) (by decide)).mp h) (by omega))) (fun c7 => ?_)
  refine z_iload_n (pc := 10) F dX8_type_10 rfl 2 rfl ?_
  refine z_bipush (pc := 11) (v := 8) F dX8_type_11 (by decide) ?_
  refine z_icmp_gt (pc := 13) (tgt := 27) F dX8_type_13 (by decide) (fun c13 => absurd c13 (fun h => absurd ((nI_ltI (a := 8) (by decide) (by omega)).mp h) (by omega))) (fun c13 => ?_)
  refine z_aload_n (pc := 16) F dX8_type_16 rfl 0 rfl ?_
  refine z_get (pc := 17) (v := .int (nI tp)) F iX8 0 rfl rfl 1 (by decide) tw_859 rfl dX8_type_17 ?_
  refine z_iload_n (pc := 20) F dX8_type_20 rfl 2 rfl ?_
  refine z_iadd (pc := 21) F dX8_type_21 ?_
  rw [show ((nI tp) + (nI nn)) = nI (tp + nn) from (nI_add _ _)]
  refine z_bipush (pc := 22) (v := 80) F dX8_type_22 (by decide) ?_
  refine z_icmp_le (pc := 24) (tgt := 29) F dX8_type_24 (by decide) (fun c24 => ?_) (fun c24 => absurd (nI_le (b := 80) hs (by decide)) c24)
  refine z_iconst (pc := 29) (v := 0) F dX8_type_29 (by decide) ?_
  refine z_istore (pc := 30) (lv' := [(0, .ref (r 0)), (1, .long w), (3, .int (nI nn)), (4, .int 0)]) F dX8_type_30 (by decide) [1, 2, 3, 0] rfl ?_
  have L32 : ∀ (N : Nat) (k : Nat), (nn - k) < N → (k ≤ nn) → (∀ j : Nat, j < k → okB w j = true) → Z X (0) (0) (mw E r (mty (zI S 0 0) (nI tp) (za S 1))) [(0, .ref (r 0)), (1, .long w), (3, .int (nI nn)), (4, .int (nI k))] 32 [] := by
    intro N
    induction N with
    | zero => intro k hN; exact absurd hN (Nat.not_lt_zero _)
    | succ N ih32 =>
      intro k hN hk hok
      refine z_iload (pc := 32) F dX8_type_32 3 rfl ?_
      refine z_iload_n (pc := 34) F dX8_type_34 rfl 2 rfl ?_
      refine z_icmp_ge (pc := 35) (tgt := 74) F dX8_type_35 (by decide) (fun c35 => ?_) (fun c35 => ?_)
      · exact (by obtain ⟨j, hj, hb⟩ := hbad; have hke : nn ≤ k := gI (by omega) (by omega) c35; rw [hok j (by omega)] at hb; exact absurd hb (by decide))
      · have hkl := ngI (by omega) (by omega) c35
        refine z_lload_n (pc := 38) F dX8_type_38 rfl 1 rfl ?_
        refine z_bipush (pc := 39) (v := 8) F dX8_type_39 (by decide) ?_
        refine z_iload (pc := 41) F dX8_type_41 3 rfl ?_
        refine z_imul (pc := 43) F dX8_type_43 ?_
        rw [show (8 * (nI k)) = nI (8 * k) from (mulL 8 k)]
        refine z_lshr (pc := 44) F dX8_type_44 ?_
        refine z_ldc2 (pc := 45) F dX8_type_45 tw_1057 ?_
        refine z_land (pc := 48) F dX8_type_48 ?_
        refine z_l2i (pc := 49) F dX8_type_49 ?_
        rw [show (((w >>> ((nI (8 * k)).toInt64 &&& 63)) &&& 255).toInt32) = byI w k from rfl]
        refine z_istore (pc := 50) (lv' := [(0, .ref (r 0)), (1, .long w), (3, .int (nI nn)), (4, .int (nI k)), (5, .int (byI w k))]) F dX8_type_50 (by decide) [1, 2, 3, 4, 0] rfl ?_
        refine z_iload (pc := 52) F dX8_type_52 4 rfl ?_
        refine z_bipush (pc := 54) (v := 33) F dX8_type_54 (by decide) ?_
        refine z_icmp_lt (pc := 56) (tgt := 66) F dX8_type_56 (by decide) (fun c56 => ?_) (fun c56 => ?_)
        · refine z_iconst (pc := 66) (v := 0) F dX8_type_66 (by decide) ?_
          exact z_zret (pc := 67) F hR rfl dX8_type_67 (Nat.le_of_ble_eq_true rfl) (Nat.le_of_ble_eq_true rfl) ⟨rfl, rfl⟩
        · refine z_iload (pc := 59) F dX8_type_59 4 rfl ?_
          refine z_bipush (pc := 61) (v := 126) F dX8_type_61 (by decide) ?_
          refine z_icmp_le (pc := 63) (tgt := 68) F dX8_type_63 (by decide) (fun c63 => ?_) (fun c63 => ?_)
          · refine z_iinc (pc := 68) (v := nI (k + 1)) (lv' := [(0, .ref (r 0)), (1, .long w), (3, .int (nI nn)), (4, .int (nI (k + 1))), (5, .int (byI w k))]) F (j := 3) dX8_type_68 rfl (nI_1 _) (by decide) [1, 2, 3, 0, 4] rfl ?_
            refine z_goto (pc := 71) (tgt := 32) F dX8_type_71 (by decide) ?_
            refine z_locals (lv' := [(0, .ref (r 0)), (1, .long w), (3, .int (nI nn)), (4, .int (nI (k + 1)))]) [0, 1, 2, 3] rfl ?_
            exact ih32 (k + 1) (by omega) (by omega) (fun j hj => by
      rcases Nat.lt_or_ge j k with z | z
      · exact hok j z
      · rw [show j = k by omega]; exact decide_eq_true ⟨c56, c63⟩)
          · refine z_iconst (pc := 66) (v := 0) F dX8_type_66 (by decide) ?_
            exact z_zret (pc := 67) F hR rfl dX8_type_67 (Nat.le_of_ble_eq_true rfl) (Nat.le_of_ble_eq_true rfl) ⟨rfl, rfl⟩
  exact L32 _ 0 (Nat.lt_succ_self _) (Nat.zero_le _) (fun j h => absurd h (Nat.not_lt_zero _))
set_option maxHeartbeats 4000000 in
set_option maxRecDepth 100000 in
theorem c_X8_type_y (l : Launch) (E : zE) (r : Nat → Nat) (S : zS) (tp : Nat) (w : Int64) (nn : Nat) (htp : zi S 1 = nI tp) (ht8 : tp ≤ 80) (h1 : 1 ≤ nn) (h8 : nn ≤ 8) (hs : tp + nn ≤ 80) (hall : ∀ j : Nat, j < nn → okB w j = true) : Ct l yX8_type cX8_type 6 (some .boolean) ({ frames := 0, cells := 0, slots := 0, locals := 0 } : Room) E (mw E r S) [.ref (r 0), .long w, .int (nI nn)] (fun v_ w_ => ∃ tape' : Nat → Int32, v_ = some (.int (bI true)) ∧ w_ = mw E r (mty (zI S 0 0) (nI (tp + nn)) tape') ∧ (∀ k : Nat, k < tp → tape' k = za S 1 k) ∧ (∀ i : Nat, i < nn → tape' (tp + i) = byI w (nn - 1 - i))) := by
  refine Ct.of (by decide) (Nat.le_of_ble_eq_true rfl) (lv := [(0, .ref (r 0)), (1, .long w), (3, .int (nI nn))]) rfl ?_
  intro X F hR
  have F : zF X l ({ frames := 0, cells := 0, slots := 0, locals := 0 } : Room) E cX8_type 6 "LiveQueriesModel" := F
  show Z X 0 0 (mw E r (mty S (zi S 1) (za S 1))) [(0, .ref (r 0)), (1, .long w), (3, .int (nI nn))] 0 []
  rw [htp]
  refine z_aload_n (pc := 0) F dX8_type_0 rfl 0 rfl ?_
  refine z_iconst (pc := 1) (v := 0) F dX8_type_1 (by decide) ?_
  refine z_put (pc := 2) (ws' := mw E r (mty (zI S 0 0) (nI tp) (za S 1))) F iX8 tyX8 tyX8_ok nmX8 0 rfl rfl 0 (by decide) tw_858 rfl rfl rfl (Nat.le_of_ble_eq_true rfl) dX8_type_2 rfl ?_
  refine z_iload_n (pc := 5) F dX8_type_5 rfl 2 rfl ?_
  refine z_iconst (pc := 6) (v := 1) F dX8_type_6 (by decide) ?_
  refine z_icmp_lt (pc := 7) (tgt := 27) F dX8_type_7 (by decide) (fun c7 => absurd c7 (fun h => absurd ((nI_ltI (b := 1) (by omega) (by decide)).mp h) (by omega))) (fun c7 => ?_)
  refine z_iload_n (pc := 10) F dX8_type_10 rfl 2 rfl ?_
  refine z_bipush (pc := 11) (v := 8) F dX8_type_11 (by decide) ?_
  refine z_icmp_gt (pc := 13) (tgt := 27) F dX8_type_13 (by decide) (fun c13 => absurd c13 (fun h => absurd ((nI_ltI (a := 8) (by decide) (by omega)).mp h) (by omega))) (fun c13 => ?_)
  refine z_aload_n (pc := 16) F dX8_type_16 rfl 0 rfl ?_
  refine z_get (pc := 17) (v := .int (nI tp)) F iX8 0 rfl rfl 1 (by decide) tw_859 rfl dX8_type_17 ?_
  refine z_iload_n (pc := 20) F dX8_type_20 rfl 2 rfl ?_
  refine z_iadd (pc := 21) F dX8_type_21 ?_
  rw [show ((nI tp) + (nI nn)) = nI (tp + nn) from (nI_add _ _)]
  refine z_bipush (pc := 22) (v := 80) F dX8_type_22 (by decide) ?_
  refine z_icmp_le (pc := 24) (tgt := 29) F dX8_type_24 (by decide) (fun c24 => ?_) (fun c24 => absurd (nI_le (b := 80) hs (by decide)) c24)
  refine z_iconst (pc := 29) (v := 0) F dX8_type_29 (by decide) ?_
  refine z_istore (pc := 30) (lv' := [(0, .ref (r 0)), (1, .long w), (3, .int (nI nn)), (4, .int 0)]) F dX8_type_30 (by decide) [1, 2, 3, 0] rfl ?_
  have L32 : ∀ (N : Nat) (k : Nat), (nn - k) < N → (k ≤ nn) → (∀ j : Nat, j < k → okB w j = true) → Z X (0) (0) (mw E r (mty (zI S 0 0) (nI tp) (za S 1))) [(0, .ref (r 0)), (1, .long w), (3, .int (nI nn)), (4, .int (nI k))] 32 [] := by
    intro N
    induction N with
    | zero => intro k hN; exact absurd hN (Nat.not_lt_zero _)
    | succ N ih32 =>
      intro k hN hk hok
      refine z_iload (pc := 32) F dX8_type_32 3 rfl ?_
      refine z_iload_n (pc := 34) F dX8_type_34 rfl 2 rfl ?_
      refine z_icmp_ge (pc := 35) (tgt := 74) F dX8_type_35 (by decide) (fun c35 => ?_) (fun c35 => ?_)
      · have hke : k = nn := Nat.le_antisymm hk (gI (by omega) (by omega) c35)
        refine z_iload_n (pc := 74) F dX8_type_74 rfl 2 rfl ?_
        refine z_iconst (pc := 75) (v := 1) F dX8_type_75 (by decide) ?_
        refine z_isub (pc := 76) F dX8_type_76 ?_
        refine z_istore (pc := 77) (lv' := [(0, .ref (r 0)), (1, .long w), (3, .int (nI nn)), (4, .int ((nI nn) - 1))]) F dX8_type_77 (by decide) [1, 2, 3, 0] rfl ?_
        have L79 : ∀ (N : Nat) (j : Nat) (tape' : Nat → Int32), j < N → (j ≤ nn) → (∀ k : Nat, k < tp → tape' k = za S 1 k) → (∀ i : Nat, i < nn - j → tape' (tp + i) = byI w (nn - 1 - i)) → Z X (0) (0) (mw E r (mty (zI S 0 0) (nI (tp + (nn - j))) tape')) [(0, .ref (r 0)), (1, .long w), (3, .int (nI nn)), (4, .int (nI j - 1))] 79 [] := by
          intro N
          induction N with
          | zero => intro j tape' hN; exact absurd hN (Nat.not_lt_zero _)
          | succ N ih79 =>
            intro j tape' hN hj hA hB
            rcases Nat.eq_zero_or_pos j with hz | hz
            · subst hz
              refine z_iload (pc := 79) F dX8_type_79 3 rfl ?_
              refine z_if_lt (pc := 81) (tgt := 121) F dX8_type_81 (by decide) (fun c81 => ?_) (fun c81 => absurd m1_neg c81)
              refine z_iconst (pc := 121) (v := 1) F dX8_type_121 (by decide) ?_
              exact z_zret (pc := 122) F hR rfl dX8_type_122 (Nat.le_of_ble_eq_true rfl) (Nat.le_of_ble_eq_true rfl) ⟨tape', rfl, rfl, hA, fun i hi => hB i (by omega)⟩
            · obtain ⟨j', rfl⟩ : ∃ j', j = j' + 1 := ⟨j - 1, by omega⟩
              refine z_iload (pc := 79) F dX8_type_79 3 rfl ?_
              refine z_if_lt (pc := 81) (tgt := 121) F dX8_type_81 (by decide) (fun c81 => absurd c81 (by rw [nI_pred]; exact nI_pos (by omega))) (fun c81 => ?_)
              rw [show nI (j' + 1) - 1 = nI j' from nI_pred j']
              refine z_aload_n (pc := 84) F dX8_type_84 rfl 0 rfl ?_
              refine z_get (pc := 85) (v := .ref (r 1)) F iX8 0 rfl rfl 2 (by decide) tw_860 rfl dX8_type_85 ?_
              refine z_aload_n (pc := 88) F dX8_type_88 rfl 0 rfl ?_
              refine z_get (pc := 89) (v := .int (nI (tp + (nn - (j' + 1))))) F iX8 0 rfl rfl 1 (by decide) tw_859 rfl dX8_type_89 ?_
              refine z_lload_n (pc := 92) F dX8_type_92 rfl 1 rfl ?_
              refine z_bipush (pc := 93) (v := 8) F dX8_type_93 (by decide) ?_
              refine z_iload (pc := 95) F dX8_type_95 3 rfl ?_
              refine z_imul (pc := 97) F dX8_type_97 ?_
              rw [show (8 * (nI j')) = nI (8 * j') from (mulL 8 j')]
              refine z_lshr (pc := 98) F dX8_type_98 ?_
              refine z_ldc2 (pc := 99) F dX8_type_99 tw_1057 ?_
              refine z_land (pc := 102) F dX8_type_102 ?_
              refine z_l2i (pc := 103) F dX8_type_103 ?_
              rw [show (((w >>> ((nI (8 * j')).toInt64 &&& 63)) &&& 255).toInt32) = byI w j' from rfl]
              refine z_iastN (pc := 104) (ws' := mw E r (mty (zI S 0 0) (nI (tp + (nn - (j' + 1)))) (upd tape' (tp + (nn - (j' + 1))) (byI w j')))) (f := tape') F 1 0 rfl rfl (tp + (nn - (j' + 1))) rfl (by omega) (by decide) dX8_type_104 rfl ?_
              refine z_aload_n (pc := 105) F dX8_type_105 rfl 0 rfl ?_
              refine z_dup (pc := 106) F dX8_type_106 rfl ?_
              refine z_get (pc := 107) (v := .int (nI (tp + (nn - (j' + 1))))) F iX8 0 rfl rfl 1 (by decide) tw_859 rfl dX8_type_107 ?_
              refine z_iconst (pc := 110) (v := 1) F dX8_type_110 (by decide) ?_
              refine z_iadd (pc := 111) F dX8_type_111 ?_
              rw [show ((nI (tp + (nn - (j' + 1)))) + 1) = nI (tp + (nn - j')) from (by rw [nI_1]; congr 1; omega)]
              refine z_put (pc := 112) (ws' := mw E r (mty (zI S 0 0) (nI (tp + (nn - j'))) (upd tape' (tp + (nn - (j' + 1))) (byI w j')))) F iX8 tyX8 tyX8_ok nmX8 0 rfl rfl 1 (by decide) tw_859 rfl rfl rfl (Nat.le_of_ble_eq_true rfl) dX8_type_112 rfl ?_
              refine z_iinc (pc := 115) (v := nI j' - 1) (lv' := [(0, .ref (r 0)), (1, .long w), (3, .int (nI nn)), (4, .int (nI j' - 1))]) F (j := 3) dX8_type_115 rfl (m1_s j') (by decide) [1, 2, 3, 0] rfl ?_
              refine z_goto (pc := 118) (tgt := 79) F dX8_type_118 (by decide) ?_
              exact ih79 j' _ (by omega) (by omega) (fun k hk => by rw [pk_un (by omega)]; exact hA k hk) (fun i hi => by
      rcases Nat.lt_or_ge i (nn - (j' + 1)) with z | z
      · rw [pk_un (by omega)]; exact hB i z
      · have e1 : i = nn - (j' + 1) := by omega
        subst e1; rw [pk_us]; congr 1; omega)
        have L79z := L79 _ nn (za S 1) (Nat.lt_succ_self _) (Nat.le_refl _) (fun _ _ => rfl) (fun i hi => absurd hi (by omega))
        rw [show tp + (nn - nn) = tp by omega] at L79z
        exact L79z
      · have hkl := ngI (by omega) (by omega) c35
        refine z_lload_n (pc := 38) F dX8_type_38 rfl 1 rfl ?_
        refine z_bipush (pc := 39) (v := 8) F dX8_type_39 (by decide) ?_
        refine z_iload (pc := 41) F dX8_type_41 3 rfl ?_
        refine z_imul (pc := 43) F dX8_type_43 ?_
        rw [show (8 * (nI k)) = nI (8 * k) from (mulL 8 k)]
        refine z_lshr (pc := 44) F dX8_type_44 ?_
        refine z_ldc2 (pc := 45) F dX8_type_45 tw_1057 ?_
        refine z_land (pc := 48) F dX8_type_48 ?_
        refine z_l2i (pc := 49) F dX8_type_49 ?_
        rw [show (((w >>> ((nI (8 * k)).toInt64 &&& 63)) &&& 255).toInt32) = byI w k from rfl]
        refine z_istore (pc := 50) (lv' := [(0, .ref (r 0)), (1, .long w), (3, .int (nI nn)), (4, .int (nI k)), (5, .int (byI w k))]) F dX8_type_50 (by decide) [1, 2, 3, 4, 0] rfl ?_
        refine z_iload (pc := 52) F dX8_type_52 4 rfl ?_
        refine z_bipush (pc := 54) (v := 33) F dX8_type_54 (by decide) ?_
        refine z_icmp_lt (pc := 56) (tgt := 66) F dX8_type_56 (by decide) (fun c56 => absurd c56 (of_decide_eq_true (hall k (by omega))).1) (fun c56 => ?_)
        refine z_iload (pc := 59) F dX8_type_59 4 rfl ?_
        refine z_bipush (pc := 61) (v := 126) F dX8_type_61 (by decide) ?_
        refine z_icmp_le (pc := 63) (tgt := 68) F dX8_type_63 (by decide) (fun c63 => ?_) (fun c63 => absurd (of_decide_eq_true (hall k (by omega))).2 c63)
        refine z_iinc (pc := 68) (v := nI (k + 1)) (lv' := [(0, .ref (r 0)), (1, .long w), (3, .int (nI nn)), (4, .int (nI (k + 1))), (5, .int (byI w k))]) F (j := 3) dX8_type_68 rfl (nI_1 _) (by decide) [1, 2, 3, 0, 4] rfl ?_
        refine z_goto (pc := 71) (tgt := 32) F dX8_type_71 (by decide) ?_
        refine z_locals (lv' := [(0, .ref (r 0)), (1, .long w), (3, .int (nI nn)), (4, .int (nI (k + 1)))]) [0, 1, 2, 3] rfl ?_
        exact ih32 (k + 1) (by omega) (by omega) (fun j hj => hall j (by omega))
  exact L32 _ 0 (Nat.lt_succ_self _) (Nat.zero_le _) (fun j h => absurd h (Nat.not_lt_zero _))
set_option maxHeartbeats 4000000 in
set_option maxRecDepth 100000 in
theorem c_X8_type_n (l : Launch) (E : zE) (r : Nat → Nat) (S : zS) (tp : Nat) (w : Int64) (n : Int32) (htp : zi S 1 = nI tp) (hno : ¬ (1 ≤ n ∧ n ≤ 8 ∧ nI tp + n ≤ 80)) : Ct l yX8_type cX8_type 6 (some .boolean) ({ frames := 0, cells := 0, slots := 0, locals := 0 } : Room) E (mw E r S) [.ref (r 0), .long w, .int n] (fun v_ w_ => v_ = some (.int (bI false)) ∧ w_ = mw E r (zI S 0 0)) := by
  refine Ct.of (by decide) (Nat.le_of_ble_eq_true rfl) (lv := [(0, .ref (r 0)), (1, .long w), (3, .int n)]) rfl ?_
  intro X F hR
  have F : zF X l ({ frames := 0, cells := 0, slots := 0, locals := 0 } : Room) E cX8_type 6 "LiveQueriesModel" := F
  refine z_aload_n (pc := 0) F dX8_type_0 rfl 0 rfl ?_
  refine z_iconst (pc := 1) (v := 0) F dX8_type_1 (by decide) ?_
  refine z_put (pc := 2) (ws' := mw E r (zI S 0 0)) F iX8 tyX8 tyX8_ok nmX8 0 rfl rfl 0 (by decide) tw_858 rfl rfl rfl (Nat.le_of_ble_eq_true rfl) dX8_type_2 rfl ?_
  refine z_iload_n (pc := 5) F dX8_type_5 rfl 2 rfl ?_
  refine z_iconst (pc := 6) (v := 1) F dX8_type_6 (by decide) ?_
  refine z_icmp_lt (pc := 7) (tgt := 27) F dX8_type_7 (by decide) (fun c7 => ?_) (fun c7 => ?_)
  · refine z_iconst (pc := 27) (v := 0) F dX8_type_27 (by decide) ?_
    exact z_zret (pc := 28) F hR rfl dX8_type_28 (Nat.le_of_ble_eq_true rfl) (Nat.le_of_ble_eq_true rfl) ⟨rfl, rfl⟩
  · refine z_iload_n (pc := 10) F dX8_type_10 rfl 2 rfl ?_
    refine z_bipush (pc := 11) (v := 8) F dX8_type_11 (by decide) ?_
    refine z_icmp_gt (pc := 13) (tgt := 27) F dX8_type_13 (by decide) (fun c13 => ?_) (fun c13 => ?_)
    · refine z_iconst (pc := 27) (v := 0) F dX8_type_27 (by decide) ?_
      exact z_zret (pc := 28) F hR rfl dX8_type_28 (Nat.le_of_ble_eq_true rfl) (Nat.le_of_ble_eq_true rfl) ⟨rfl, rfl⟩
    · refine z_aload_n (pc := 16) F dX8_type_16 rfl 0 rfl ?_
      refine z_get (pc := 17) (v := .int (zi S 1)) F iX8 0 rfl rfl 1 (by decide) tw_859 rfl dX8_type_17 ?_
      rw [show (zi S 1) = nI tp from htp]
      refine z_iload_n (pc := 20) F dX8_type_20 rfl 2 rfl ?_
      refine z_iadd (pc := 21) F dX8_type_21 ?_
      refine z_bipush (pc := 22) (v := 80) F dX8_type_22 (by decide) ?_
      refine z_icmp_le (pc := 24) (tgt := 29) F dX8_type_24 (by decide) (fun c24 => ?_) (fun c24 => ?_)
      · exact absurd ⟨by rw [Int32.le_iff_toInt_le]; rw [Int32.lt_iff_toInt_lt] at c7; omega, by rw [Int32.le_iff_toInt_le]; rw [Int32.lt_iff_toInt_lt] at c13; omega, c24⟩ hno
      · refine z_iconst (pc := 27) (v := 0) F dX8_type_27 (by decide) ?_
        exact z_zret (pc := 28) F hR rfl dX8_type_28 (Nat.le_of_ble_eq_true rfl) (Nat.le_of_ble_eq_true rfl) ⟨rfl, rfl⟩

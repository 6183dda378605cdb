set_option maxHeartbeats 4000000 in
set_option maxRecDepth 100000 in
theorem c_X8_readPath_p (l : Launch) (E : zE) (r : Nat → Nat) (S : zS) (nq : Nat) (tp : Nat) (sx : Nat → Nat) (n : Nat) (p : Nat) (op : Nat) (a : Nat) (cd : Nat → Int32) (nm : Nat → Int32) (R : zRs) (ht : tpo S tp sx) (hn6 : nq < 6) (hn3 : zi S 3 = nI nq) (ihX : ∀ m : Nat, m < n → pC l E r S nq tp yX8_readX cX8_readX 2 (fun p op R => ps sx m 5 p op = some R) m) (hH : pcat [(1, 0)] (ps sx n 10 p op) = some R) (hp : p ≤ tp) (ha : a ≤ 2 * p) (hop : op ≤ 12) : Ct l yX8_readPath cX8_readPath 2 (some .boolean) (prm n) E (mw E r (mps S (nI p) (nI a) (nI op) cd nm)) [.ref (r 0)] (fun v_ w_ => ∃ a' : Int32, ∃ op' : Int32, ∃ cd' : Nat → Int32, ∃ nm' : Nat → Int32, v_ = some (.int (bI R.1)) ∧ w_ = mw E r (mps S (nI R.2.1) a' op' cd' nm') ∧ (agr (240 * nq + a) cd nm cd' nm') ∧ (R.1 = true → a' = nI (a + R.2.2.length) ∧ op' = nI op ∧ laid cd' nm' (240 * nq + a) R.2.2)) := by
  refine Ct.of (by decide) (Nat.le_of_ble_eq_true rfl) (lv := [(0, .ref (r 0))]) rfl ?_
  intro X F hR
  have F : zF X l (prm n) E cX8_readPath 2 "LiveQueriesModel" := F
  have htp := ht.2.1
  have hsx := ht.2.2.2.2
  have h0 := ht.2.2.2.1
  obtain ⟨R0, hR0, rfl⟩ := pcat_inv hH
  refine z_aload_n (pc := 0) F dX8_readPath_0 rfl 0 rfl ?_
  refine z_iconst (pc := 1) (v := 1) F dX8_readPath_1 (by decide) ?_
  refine z_iconst (pc := 2) (v := 0) F dX8_readPath_2 (by decide) ?_
  refine z_callVW (pc := 3) (q0 := 0) (ci := 8) (rest := []) F (c_X8_lay l E r S p (nI op) cd nm nq a 1 0 hn6 hn3 (by omega)) 2 ww_Model_196 (by decide +kernel) rfl (by constructor <;> (dsimp only; omega)) ⟨Nat.le_of_ble_eq_true rfl, Nat.le_of_ble_eq_true rfl⟩ rfl rfl rfl rfl (Nat.le_of_ble_eq_true rfl) dX8_readPath_3 (fun v_ w1_ hp => ?_)
  obtain ⟨rfl, rfl⟩ := hp
  show Z X (0) (0) (mw E r (mps S (nI p) (nI (a + 1)) (nI op) (upd cd (240 * nq + a) (nI 1)) (upd nm (240 * nq + a) (nI 0)))) [(0, .ref (r 0))] 6 []
  have L6 : ∀ (N : Nat) (k : Nat) (p2 : Nat) (c0 : List (Nat × Nat)) (cd2 : Nat → Int32) (nm2 : Nat → Int32) (R4 : zRs), k < N → (k ≤ n) → (ps sx k 10 p2 op = some R4) → (R4.1 = R0.1) → (R4.2.1 = R0.2.1) → (c0 ++ R4.2.2 = [(1, 0)] ++ R0.2.2) → (p2 ≤ tp) → (a + c0.length ≤ 2 * p2 + 1) → (agr (240 * nq + a) cd nm cd2 nm2) → (laid cd2 nm2 (240 * nq + a) c0) → Z X (0) (0) (mw E r (mps S (nI p2) (nI (a + c0.length)) (nI op) cd2 nm2)) [(0, .ref (r 0))] 6 [] := by
    intro N
    induction N with
    | zero => intro k p2 c0 cd2 nm2 R4 hN; exact absurd hN (Nat.not_lt_zero _)
    | succ N ih6 =>
      intro k p2 c0 cd2 nm2 R4 hN hk hl he1 he2 he3 hp2 ha2 hg2 hl2
      obtain ⟨k', rfl⟩ : ∃ k', k = k' + 1 := by cases k with | zero => cases hl | succ k' => exact ⟨k', rfl⟩
      refine z_aload_n (pc := 6) F dX8_readPath_6 rfl 0 rfl ?_
      refine z_callVW (pc := 7) (q0 := 0) (ci := 8) (rest := []) F (c_X8_see l E r S tp sx p2 (nI (a + c0.length)) (nI op) cd2 nm2 ht hp2) 0 ww_Model_180 (by decide +kernel) rfl (by constructor <;> (dsimp only; omega)) ⟨Nat.le_of_ble_eq_true rfl, Nat.le_of_ble_eq_true rfl⟩ rfl rfl rfl rfl (Nat.le_of_ble_eq_true rfl) dX8_readPath_7 (fun v_ w1_ hp => ?_)
      obtain ⟨rfl, rfl⟩ := hp
      show Z X (0) (0) (mw E r (mps S (nI p2) (nI (a + c0.length)) (nI op) cd2 nm2)) [(0, .ref (r 0))] 10 [.int (nI (sx p2))]
      refine z_bipush (pc := 10) (v := 114) F dX8_readPath_10 (by decide) ?_
      refine z_icmp_ne (pc := 12) (tgt := 45) F dX8_readPath_12 (by decide) (fun c12 => ?_) (fun c12 => ?_)
      · have k12 : ¬ sx p2 = 114 := fun h => c12 (by rw [h]; rfl)
        refine z_aload_n (pc := 45) F dX8_readPath_45 rfl 0 rfl ?_
        refine z_callVW (pc := 46) (q0 := 0) (ci := 8) (rest := []) F (c_X8_see l E r S tp sx p2 (nI (a + c0.length)) (nI op) cd2 nm2 ht hp2) 0 ww_Model_180 (by decide +kernel) rfl (by constructor <;> (dsimp only; omega)) ⟨Nat.le_of_ble_eq_true rfl, Nat.le_of_ble_eq_true rfl⟩ rfl rfl rfl rfl (Nat.le_of_ble_eq_true rfl) dX8_readPath_46 (fun v_ w1_ hp => ?_)
        obtain ⟨rfl, rfl⟩ := hp
        show Z X (0) (0) (mw E r (mps S (nI p2) (nI (a + c0.length)) (nI op) cd2 nm2)) [(0, .ref (r 0))] 49 [.int (nI (sx p2))]
        refine z_istore_n (pc := 49) (lv' := [(0, .ref (r 0)), (1, .int (nI (sx p2)))]) F dX8_readPath_49 rfl (by decide) [1, 0] rfl ?_
        refine z_iload_n (pc := 50) F dX8_readPath_50 rfl 1 rfl ?_
        refine z_bipush (pc := 51) (v := 116) F dX8_readPath_51 (by decide) ?_
        refine z_icmp_ne (pc := 53) (tgt := 109) F dX8_readPath_53 (by decide) (fun c53 => ?_) (fun c53 => ?_)
        · have k53 : ¬ sx p2 = 116 := fun h => c53 (by rw [h]; rfl)
          refine z_iload_n (pc := 109) F dX8_readPath_109 rfl 1 rfl ?_
          refine z_bipush (pc := 110) (v := 97) F dX8_readPath_110 (by decide) ?_
          refine z_icmp_eq (pc := 112) (tgt := 141) F dX8_readPath_112 (by decide) (fun c112 => ?_) (fun c112 => ?_)
          · have k112 : sx p2 = 97 := nIe (b := 97) (by have := hsx (p2); omega) (by decide) c112
            refine z_aload_n (pc := 141) F dX8_readPath_141 rfl 0 rfl ?_
            refine z_dup (pc := 142) F dX8_readPath_142 rfl ?_
            refine z_get (pc := 143) (v := .int (nI p2)) F iX8 0 rfl rfl 35 (by decide) tw_893 rfl dX8_readPath_143 ?_
            refine z_iconst (pc := 146) (v := 1) F dX8_readPath_146 (by decide) ?_
            refine z_iadd (pc := 147) F dX8_readPath_147 ?_
            rw [show ((nI p2) + 1) = nI (p2 + 1) from (nI_1 _)]
            refine z_put (pc := 148) (ws' := mw E r (mps S (nI (p2 + 1)) (nI (a + c0.length)) (nI op) cd2 nm2)) F iX8 tyX8 tyX8_ok nmX8 0 rfl rfl 35 (by decide) tw_893 rfl rfl rfl (Nat.le_of_ble_eq_true rfl) dX8_readPath_148 rfl ?_
            have hlt2 : p2 < tp := sx_lt h0 (by omega)
            refine z_aload_n (pc := 151) F dX8_readPath_151 rfl 0 rfl ?_
            refine z_iload_n (pc := 152) F dX8_readPath_152 rfl 1 rfl ?_
            refine z_bipush (pc := 153) (v := 110) F dX8_readPath_153 (by decide) ?_
            refine z_icmp_ne (pc := 155) (tgt := 163) F dX8_readPath_155 (by decide) (fun c155 => ?_) (fun c155 => absurd c155 (fun h => absurd (nIe (b := 110) (by have := hsx p2; omega) (by decide) h) (by omega)))
            refine z_iload_n (pc := 163) F dX8_readPath_163 rfl 1 rfl ?_
            refine z_bipush (pc := 164) (v := 105) F dX8_readPath_164 (by decide) ?_
            refine z_icmp_ne (pc := 166) (tgt := 174) F dX8_readPath_166 (by decide) (fun c166 => ?_) (fun c166 => absurd c166 (fun h => absurd (nIe (b := 105) (by have := hsx p2; omega) (by decide) h) (by omega)))
            refine z_iconst (pc := 174) (v := 3) F dX8_readPath_174 (by decide) ?_
            refine z_iload_n (pc := 175) F dX8_readPath_175 rfl 1 rfl ?_
            refine z_iadd (pc := 176) F dX8_readPath_176 ?_
            refine z_bipush (pc := 177) (v := 97) F dX8_readPath_177 (by decide) ?_
            refine z_isub (pc := 179) F dX8_readPath_179 ?_
            rw [show ((3 + (nI (sx p2))) - 97) = nI 3 from (by rw [k112]; rfl)]
            refine z_iconst (pc := 180) (v := 0) F dX8_readPath_180 (by decide) ?_
            refine z_callVW (pc := 181) (q0 := 0) (ci := 8) (rest := []) F (c_X8_lay l E r S (p2 + 1) (nI op) cd2 nm2 nq (a + c0.length) 3 0 hn6 hn3 (by omega)) 2 ww_Model_196 (by decide +kernel) rfl (by constructor <;> (dsimp only; omega)) ⟨Nat.le_of_ble_eq_true rfl, Nat.le_of_ble_eq_true rfl⟩ rfl rfl rfl rfl (Nat.le_of_ble_eq_true rfl) dX8_readPath_181 (fun v_ w1_ hp => ?_)
            obtain ⟨rfl, rfl⟩ := hp
            show Z X (0) (0) (mw E r (mps S (nI (p2 + 1)) (nI ((a + c0.length) + 1)) (nI op) (upd cd2 (240 * nq + (a + c0.length)) (nI 3)) (upd nm2 (240 * nq + (a + c0.length)) (nI 0)))) [(0, .ref (r 0)), (1, .int (nI (sx p2)))] 184 []
            refine z_iconst (pc := 184) (v := 1) F dX8_readPath_184 (by decide) ?_
            exact z_zret (pc := 185) F hR rfl dX8_readPath_185 (Nat.le_of_ble_eq_true rfl) (Nat.le_of_ble_eq_true rfl) (by have e4 := p10_f hl k12 k53 (f := 3) (by simp [fldO, k112]) (by decide); subst e4; exact lp_end2 (c0 := c0 ++ [(3, 0)]) he1 he2 he3 (agr_lay hg2 (by omega)) (laid_lay hl2) (congrArg nI (by simp; omega)) rfl)
          · have k112 : ¬ sx p2 = 97 := fun h => c112 (by rw [h]; rfl)
            refine z_iload_n (pc := 115) F dX8_readPath_115 rfl 1 rfl ?_
            refine z_bipush (pc := 116) (v := 98) F dX8_readPath_116 (by decide) ?_
            refine z_icmp_eq (pc := 118) (tgt := 141) F dX8_readPath_118 (by decide) (fun c118 => ?_) (fun c118 => ?_)
            · have k118 : sx p2 = 98 := nIe (b := 98) (by have := hsx (p2); omega) (by decide) c118
              refine z_aload_n (pc := 141) F dX8_readPath_141 rfl 0 rfl ?_
              refine z_dup (pc := 142) F dX8_readPath_142 rfl ?_
              refine z_get (pc := 143) (v := .int (nI p2)) F iX8 0 rfl rfl 35 (by decide) tw_893 rfl dX8_readPath_143 ?_
              refine z_iconst (pc := 146) (v := 1) F dX8_readPath_146 (by decide) ?_
              refine z_iadd (pc := 147) F dX8_readPath_147 ?_
              rw [show ((nI p2) + 1) = nI (p2 + 1) from (nI_1 _)]
              refine z_put (pc := 148) (ws' := mw E r (mps S (nI (p2 + 1)) (nI (a + c0.length)) (nI op) cd2 nm2)) F iX8 tyX8 tyX8_ok nmX8 0 rfl rfl 35 (by decide) tw_893 rfl rfl rfl (Nat.le_of_ble_eq_true rfl) dX8_readPath_148 rfl ?_
              have hlt2 : p2 < tp := sx_lt h0 (by omega)
              refine z_aload_n (pc := 151) F dX8_readPath_151 rfl 0 rfl ?_
              refine z_iload_n (pc := 152) F dX8_readPath_152 rfl 1 rfl ?_
              refine z_bipush (pc := 153) (v := 110) F dX8_readPath_153 (by decide) ?_
              refine z_icmp_ne (pc := 155) (tgt := 163) F dX8_readPath_155 (by decide) (fun c155 => ?_) (fun c155 => absurd c155 (fun h => absurd (nIe (b := 110) (by have := hsx p2; omega) (by decide) h) (by omega)))
              refine z_iload_n (pc := 163) F dX8_readPath_163 rfl 1 rfl ?_
              refine z_bipush (pc := 164) (v := 105) F dX8_readPath_164 (by decide) ?_
              refine z_icmp_ne (pc := 166) (tgt := 174) F dX8_readPath_166 (by decide) (fun c166 => ?_) (fun c166 => absurd c166 (fun h => absurd (nIe (b := 105) (by have := hsx p2; omega) (by decide) h) (by omega)))
              refine z_iconst (pc := 174) (v := 3) F dX8_readPath_174 (by decide) ?_
              refine z_iload_n (pc := 175) F dX8_readPath_175 rfl 1 rfl ?_
              refine z_iadd (pc := 176) F dX8_readPath_176 ?_
              refine z_bipush (pc := 177) (v := 97) F dX8_readPath_177 (by decide) ?_
              refine z_isub (pc := 179) F dX8_readPath_179 ?_
              rw [show ((3 + (nI (sx p2))) - 97) = nI 4 from (by rw [k118]; rfl)]
              refine z_iconst (pc := 180) (v := 0) F dX8_readPath_180 (by decide) ?_
              refine z_callVW (pc := 181) (q0 := 0) (ci := 8) (rest := []) F (c_X8_lay l E r S (p2 + 1) (nI op) cd2 nm2 nq (a + c0.length) 4 0 hn6 hn3 (by omega)) 2 ww_Model_196 (by decide +kernel) rfl (by constructor <;> (dsimp only; omega)) ⟨Nat.le_of_ble_eq_true rfl, Nat.le_of_ble_eq_true rfl⟩ rfl rfl rfl rfl (Nat.le_of_ble_eq_true rfl) dX8_readPath_181 (fun v_ w1_ hp => ?_)
              obtain ⟨rfl, rfl⟩ := hp
              show Z X (0) (0) (mw E r (mps S (nI (p2 + 1)) (nI ((a + c0.length) + 1)) (nI op) (upd cd2 (240 * nq + (a + c0.length)) (nI 4)) (upd nm2 (240 * nq + (a + c0.length)) (nI 0)))) [(0, .ref (r 0)), (1, .int (nI (sx p2)))] 184 []
              refine z_iconst (pc := 184) (v := 1) F dX8_readPath_184 (by decide) ?_
              exact z_zret (pc := 185) F hR rfl dX8_readPath_185 (Nat.le_of_ble_eq_true rfl) (Nat.le_of_ble_eq_true rfl) (by have e4 := p10_f hl k12 k53 (f := 4) (by simp [fldO, k118]) (by decide); subst e4; exact lp_end2 (c0 := c0 ++ [(4, 0)]) he1 he2 he3 (agr_lay hg2 (by omega)) (laid_lay hl2) (congrArg nI (by simp; omega)) rfl)
            · have k118 : ¬ sx p2 = 98 := fun h => c118 (by rw [h]; rfl)
              refine z_iload_n (pc := 121) F dX8_readPath_121 rfl 1 rfl ?_
              refine z_bipush (pc := 122) (v := 99) F dX8_readPath_122 (by decide) ?_
              refine z_icmp_eq (pc := 124) (tgt := 141) F dX8_readPath_124 (by decide) (fun c124 => ?_) (fun c124 => ?_)
              · have k124 : sx p2 = 99 := nIe (b := 99) (by have := hsx (p2); omega) (by decide) c124
                refine z_aload_n (pc := 141) F dX8_readPath_141 rfl 0 rfl ?_
                refine z_dup (pc := 142) F dX8_readPath_142 rfl ?_
                refine z_get (pc := 143) (v := .int (nI p2)) F iX8 0 rfl rfl 35 (by decide) tw_893 rfl dX8_readPath_143 ?_
                refine z_iconst (pc := 146) (v := 1) F dX8_readPath_146 (by decide) ?_
                refine z_iadd (pc := 147) F dX8_readPath_147 ?_
                rw [show ((nI p2) + 1) = nI (p2 + 1) from (nI_1 _)]
                refine z_put (pc := 148) (ws' := mw E r (mps S (nI (p2 + 1)) (nI (a + c0.length)) (nI op) cd2 nm2)) F iX8 tyX8 tyX8_ok nmX8 0 rfl rfl 35 (by decide) tw_893 rfl rfl rfl (Nat.le_of_ble_eq_true rfl) dX8_readPath_148 rfl ?_
                have hlt2 : p2 < tp := sx_lt h0 (by omega)
                refine z_aload_n (pc := 151) F dX8_readPath_151 rfl 0 rfl ?_
                refine z_iload_n (pc := 152) F dX8_readPath_152 rfl 1 rfl ?_
                refine z_bipush (pc := 153) (v := 110) F dX8_readPath_153 (by decide) ?_
                refine z_icmp_ne (pc := 155) (tgt := 163) F dX8_readPath_155 (by decide) (fun c155 => ?_) (fun c155 => absurd c155 (fun h => absurd (nIe (b := 110) (by have := hsx p2; omega) (by decide) h) (by omega)))
                refine z_iload_n (pc := 163) F dX8_readPath_163 rfl 1 rfl ?_
                refine z_bipush (pc := 164) (v := 105) F dX8_readPath_164 (by decide) ?_
                refine z_icmp_ne (pc := 166) (tgt := 174) F dX8_readPath_166 (by decide) (fun c166 => ?_) (fun c166 => absurd c166 (fun h => absurd (nIe (b := 105) (by have := hsx p2; omega) (by decide) h) (by omega)))
                refine z_iconst (pc := 174) (v := 3) F dX8_readPath_174 (by decide) ?_
                refine z_iload_n (pc := 175) F dX8_readPath_175 rfl 1 rfl ?_
                refine z_iadd (pc := 176) F dX8_readPath_176 ?_
                refine z_bipush (pc := 177) (v := 97) F dX8_readPath_177 (by decide) ?_
                refine z_isub (pc := 179) F dX8_readPath_179 ?_
                rw [show ((3 + (nI (sx p2))) - 97) = nI 5 from (by rw [k124]; rfl)]
                refine z_iconst (pc := 180) (v := 0) F dX8_readPath_180 (by decide) ?_
                refine z_callVW (pc := 181) (q0 := 0) (ci := 8) (rest := []) F (c_X8_lay l E r S (p2 + 1) (nI op) cd2 nm2 nq (a + c0.length) 5 0 hn6 hn3 (by omega)) 2 ww_Model_196 (by decide +kernel) rfl (by constructor <;> (dsimp only; omega)) ⟨Nat.le_of_ble_eq_true rfl, Nat.le_of_ble_eq_true rfl⟩ rfl rfl rfl rfl (Nat.le_of_ble_eq_true rfl) dX8_readPath_181 (fun v_ w1_ hp => ?_)
                obtain ⟨rfl, rfl⟩ := hp
                show Z X (0) (0) (mw E r (mps S (nI (p2 + 1)) (nI ((a + c0.length) + 1)) (nI op) (upd cd2 (240 * nq + (a + c0.length)) (nI 5)) (upd nm2 (240 * nq + (a + c0.length)) (nI 0)))) [(0, .ref (r 0)), (1, .int (nI (sx p2)))] 184 []
                refine z_iconst (pc := 184) (v := 1) F dX8_readPath_184 (by decide) ?_
                exact z_zret (pc := 185) F hR rfl dX8_readPath_185 (Nat.le_of_ble_eq_true rfl) (Nat.le_of_ble_eq_true rfl) (by have e4 := p10_f hl k12 k53 (f := 5) (by simp [fldO, k124]) (by decide); subst e4; exact lp_end2 (c0 := c0 ++ [(5, 0)]) he1 he2 he3 (agr_lay hg2 (by omega)) (laid_lay hl2) (congrArg nI (by simp; omega)) rfl)
              · have k124 : ¬ sx p2 = 99 := fun h => c124 (by rw [h]; rfl)
                refine z_iload_n (pc := 127) F dX8_readPath_127 rfl 1 rfl ?_
                refine z_bipush (pc := 128) (v := 110) F dX8_readPath_128 (by decide) ?_
                refine z_icmp_eq (pc := 130) (tgt := 141) F dX8_readPath_130 (by decide) (fun c130 => ?_) (fun c130 => ?_)
                · have k130 : sx p2 = 110 := nIe (b := 110) (by have := hsx (p2); omega) (by decide) c130
                  refine z_aload_n (pc := 141) F dX8_readPath_141 rfl 0 rfl ?_
                  refine z_dup (pc := 142) F dX8_readPath_142 rfl ?_
                  refine z_get (pc := 143) (v := .int (nI p2)) F iX8 0 rfl rfl 35 (by decide) tw_893 rfl dX8_readPath_143 ?_
                  refine z_iconst (pc := 146) (v := 1) F dX8_readPath_146 (by decide) ?_
                  refine z_iadd (pc := 147) F dX8_readPath_147 ?_
                  rw [show ((nI p2) + 1) = nI (p2 + 1) from (nI_1 _)]
                  refine z_put (pc := 148) (ws' := mw E r (mps S (nI (p2 + 1)) (nI (a + c0.length)) (nI op) cd2 nm2)) F iX8 tyX8 tyX8_ok nmX8 0 rfl rfl 35 (by decide) tw_893 rfl rfl rfl (Nat.le_of_ble_eq_true rfl) dX8_readPath_148 rfl ?_
                  have hlt2 : p2 < tp := sx_lt h0 (by omega)
                  refine z_aload_n (pc := 151) F dX8_readPath_151 rfl 0 rfl ?_
                  refine z_iload_n (pc := 152) F dX8_readPath_152 rfl 1 rfl ?_
                  refine z_bipush (pc := 153) (v := 110) F dX8_readPath_153 (by decide) ?_
                  refine z_icmp_ne (pc := 155) (tgt := 163) F dX8_readPath_155 (by decide) (fun c155 => absurd c155 (fun h => h (by rw [k130]; rfl))) (fun c155 => ?_)
                  refine z_bipush (pc := 158) (v := 6) F dX8_readPath_158 (by decide) ?_
                  refine z_goto (pc := 160) (tgt := 180) F dX8_readPath_160 (by decide) ?_
                  refine z_iconst (pc := 180) (v := 0) F dX8_readPath_180 (by decide) ?_
                  refine z_callVW (pc := 181) (q0 := 0) (ci := 8) (rest := []) F (c_X8_lay l E r S (p2 + 1) (nI op) cd2 nm2 nq (a + c0.length) 6 0 hn6 hn3 (by omega)) 2 ww_Model_196 (by decide +kernel) rfl (by constructor <;> (dsimp only; omega)) ⟨Nat.le_of_ble_eq_true rfl, Nat.le_of_ble_eq_true rfl⟩ rfl rfl rfl rfl (Nat.le_of_ble_eq_true rfl) dX8_readPath_181 (fun v_ w1_ hp => ?_)
                  obtain ⟨rfl, rfl⟩ := hp
                  show Z X (0) (0) (mw E r (mps S (nI (p2 + 1)) (nI ((a + c0.length) + 1)) (nI op) (upd cd2 (240 * nq + (a + c0.length)) (nI 6)) (upd nm2 (240 * nq + (a + c0.length)) (nI 0)))) [(0, .ref (r 0)), (1, .int (nI (sx p2)))] 184 []
                  refine z_iconst (pc := 184) (v := 1) F dX8_readPath_184 (by decide) ?_
                  exact z_zret (pc := 185) F hR rfl dX8_readPath_185 (Nat.le_of_ble_eq_true rfl) (Nat.le_of_ble_eq_true rfl) (by have e4 := p10_f hl k12 k53 (f := 6) (by simp [fldO, k130]) (by decide); subst e4; exact lp_end2 (c0 := c0 ++ [(6, 0)]) he1 he2 he3 (agr_lay hg2 (by omega)) (laid_lay hl2) (congrArg nI (by simp; omega)) rfl)
                · have k130 : ¬ sx p2 = 110 := fun h => c130 (by rw [h]; rfl)
                  refine z_iload_n (pc := 133) F dX8_readPath_133 rfl 1 rfl ?_
                  refine z_bipush (pc := 134) (v := 105) F dX8_readPath_134 (by decide) ?_
                  refine z_icmp_eq (pc := 136) (tgt := 141) F dX8_readPath_136 (by decide) (fun c136 => ?_) (fun c136 => ?_)
                  · have k136 : sx p2 = 105 := nIe (b := 105) (by have := hsx (p2); omega) (by decide) c136
                    refine z_aload_n (pc := 141) F dX8_readPath_141 rfl 0 rfl ?_
                    refine z_dup (pc := 142) F dX8_readPath_142 rfl ?_
                    refine z_get (pc := 143) (v := .int (nI p2)) F iX8 0 rfl rfl 35 (by decide) tw_893 rfl dX8_readPath_143 ?_
                    refine z_iconst (pc := 146) (v := 1) F dX8_readPath_146 (by decide) ?_
                    refine z_iadd (pc := 147) F dX8_readPath_147 ?_
                    rw [show ((nI p2) + 1) = nI (p2 + 1) from (nI_1 _)]
                    refine z_put (pc := 148) (ws' := mw E r (mps S (nI (p2 + 1)) (nI (a + c0.length)) (nI op) cd2 nm2)) F iX8 tyX8 tyX8_ok nmX8 0 rfl rfl 35 (by decide) tw_893 rfl rfl rfl (Nat.le_of_ble_eq_true rfl) dX8_readPath_148 rfl ?_
                    have hlt2 : p2 < tp := sx_lt h0 (by omega)
                    refine z_aload_n (pc := 151) F dX8_readPath_151 rfl 0 rfl ?_
                    refine z_iload_n (pc := 152) F dX8_readPath_152 rfl 1 rfl ?_
                    refine z_bipush (pc := 153) (v := 110) F dX8_readPath_153 (by decide) ?_
                    refine z_icmp_ne (pc := 155) (tgt := 163) F dX8_readPath_155 (by decide) (fun c155 => ?_) (fun c155 => absurd c155 (fun h => absurd (nIe (b := 110) (by have := hsx p2; omega) (by decide) h) (by omega)))
                    refine z_iload_n (pc := 163) F dX8_readPath_163 rfl 1 rfl ?_
                    refine z_bipush (pc := 164) (v := 105) F dX8_readPath_164 (by decide) ?_
                    refine z_icmp_ne (pc := 166) (tgt := 174) F dX8_readPath_166 (by decide) (fun c166 => absurd c166 (fun h => h (by rw [k136]; rfl))) (fun c166 => ?_)
                    refine z_bipush (pc := 169) (v := 7) F dX8_readPath_169 (by decide) ?_
                    refine z_goto (pc := 171) (tgt := 180) F dX8_readPath_171 (by decide) ?_
                    refine z_iconst (pc := 180) (v := 0) F dX8_readPath_180 (by decide) ?_
                    refine z_callVW (pc := 181) (q0 := 0) (ci := 8) (rest := []) F (c_X8_lay l E r S (p2 + 1) (nI op) cd2 nm2 nq (a + c0.length) 7 0 hn6 hn3 (by omega)) 2 ww_Model_196 (by decide +kernel) rfl (by constructor <;> (dsimp only; omega)) ⟨Nat.le_of_ble_eq_true rfl, Nat.le_of_ble_eq_true rfl⟩ rfl rfl rfl rfl (Nat.le_of_ble_eq_true rfl) dX8_readPath_181 (fun v_ w1_ hp => ?_)
                    obtain ⟨rfl, rfl⟩ := hp
                    show Z X (0) (0) (mw E r (mps S (nI (p2 + 1)) (nI ((a + c0.length) + 1)) (nI op) (upd cd2 (240 * nq + (a + c0.length)) (nI 7)) (upd nm2 (240 * nq + (a + c0.length)) (nI 0)))) [(0, .ref (r 0)), (1, .int (nI (sx p2)))] 184 []
                    refine z_iconst (pc := 184) (v := 1) F dX8_readPath_184 (by decide) ?_
                    exact z_zret (pc := 185) F hR rfl dX8_readPath_185 (Nat.le_of_ble_eq_true rfl) (Nat.le_of_ble_eq_true rfl) (by have e4 := p10_f hl k12 k53 (f := 7) (by simp [fldO, k136]) (by decide); subst e4; exact lp_end2 (c0 := c0 ++ [(7, 0)]) he1 he2 he3 (agr_lay hg2 (by omega)) (laid_lay hl2) (congrArg nI (by simp; omega)) rfl)
                  · have k136 : ¬ sx p2 = 105 := fun h => c136 (by rw [h]; rfl)
                    refine z_iconst (pc := 139) (v := 0) F dX8_readPath_139 (by decide) ?_
                    exact z_zret (pc := 140) F hR rfl dX8_readPath_140 (Nat.le_of_ble_eq_true rfl) (Nat.le_of_ble_eq_true rfl) (by have e4 := p10_f0 hl k12 k53 (by simp [fldO, k112, k118, k124, k130, k136]); subst e4; exact lp_fail he1 he2 hg2)
        · have k53 : sx p2 = 116 := nIe (b := 116) (by have := hsx (p2); omega) (by decide) c53
          have hlt2 : p2 < tp := sx_lt h0 (by omega)
          refine z_aload_n (pc := 56) F dX8_readPath_56 rfl 0 rfl ?_
          refine z_dup (pc := 57) F dX8_readPath_57 rfl ?_
          refine z_get (pc := 58) (v := .int (nI p2)) F iX8 0 rfl rfl 35 (by decide) tw_893 rfl dX8_readPath_58 ?_
          refine z_iconst (pc := 61) (v := 1) F dX8_readPath_61 (by decide) ?_
          refine z_iadd (pc := 62) F dX8_readPath_62 ?_
          rw [show ((nI p2) + 1) = nI (p2 + 1) from (nI_1 _)]
          refine z_put (pc := 63) (ws' := mw E r (mps S (nI (p2 + 1)) (nI (a + c0.length)) (nI op) cd2 nm2)) F iX8 tyX8 tyX8_ok nmX8 0 rfl rfl 35 (by decide) tw_893 rfl rfl rfl (Nat.le_of_ble_eq_true rfl) dX8_readPath_63 rfl ?_
          refine z_aload_n (pc := 66) F dX8_readPath_66 rfl 0 rfl ?_
          refine z_callVW (pc := 67) (q0 := 0) (ci := 8) (rest := []) F (c_X8_see l E r S tp sx (p2 + 1) (nI (a + c0.length)) (nI op) cd2 nm2 ht (by omega)) 0 ww_Model_180 (by decide +kernel) rfl (by constructor <;> (dsimp only; omega)) ⟨Nat.le_of_ble_eq_true rfl, Nat.le_of_ble_eq_true rfl⟩ rfl rfl rfl rfl (Nat.le_of_ble_eq_true rfl) dX8_readPath_67 (fun v_ w1_ hp => ?_)
          obtain ⟨rfl, rfl⟩ := hp
          show Z X (0) (0) (mw E r (mps S (nI (p2 + 1)) (nI (a + c0.length)) (nI op) cd2 nm2)) [(0, .ref (r 0)), (1, .int (nI (sx p2)))] 70 [.int (nI (sx (p2 + 1)))]
          refine z_bipush (pc := 70) (v := 91) F dX8_readPath_70 (by decide) ?_
          refine z_icmp_ne (pc := 72) (tgt := 98) F dX8_readPath_72 (by decide) (fun c72 => ?_) (fun c72 => ?_)
          · have k72 : ¬ sx (p2 + 1) = 91 := fun h => c72 (by rw [h]; rfl)
            refine z_iconst (pc := 98) (v := 0) F dX8_readPath_98 (by decide) ?_
            exact z_zret (pc := 99) F hR rfl dX8_readPath_99 (Nat.le_of_ble_eq_true rfl) (Nat.le_of_ble_eq_true rfl) (by have e4 := p10_tn hl k12 k53 (Or.inl k72); subst e4; exact lp_fail he1 he2 hg2)
          · have k72 : sx (p2 + 1) = 91 := nIe (b := 91) (by have := hsx ((p2 + 1)); omega) (by decide) c72
            refine z_aload_n (pc := 75) F dX8_readPath_75 rfl 0 rfl ?_
            rcases Classical.em (op = 12) with ko | ko
            · subst ko
              refine z_callVW (pc := 76) (q0 := 0) (ci := 8) (rest := []) F (c_X8_open_n l E r S (p2 + 1) (nI (a + c0.length)) cd2 nm2) 0 ww_Model_199 (by decide +kernel) rfl (by constructor <;> (dsimp only; omega)) ⟨Nat.le_of_ble_eq_true rfl, Nat.le_of_ble_eq_true rfl⟩ rfl rfl rfl rfl (Nat.le_of_ble_eq_true rfl) dX8_readPath_76 (fun v_ w1_ hp => ?_)
              obtain ⟨rfl, rfl⟩ := hp
              show Z X (0) (0) (mw E r (mps S (nI (p2 + 1)) (nI (a + c0.length)) (nI 12) cd2 nm2)) [(0, .ref (r 0)), (1, .int (nI (sx p2)))] 79 [.int (bI false)]
              rw [show (bI false) = 0 from rfl]
              refine z_if_eq (pc := 79) (tgt := 98) F dX8_readPath_79 (by decide) (fun _ => ?_) (fun h => absurd h (by decide))
              refine z_iconst (pc := 98) (v := 0) F dX8_readPath_98 (by decide) ?_
              exact z_zret (pc := 99) F hR rfl dX8_readPath_99 (Nat.le_of_ble_eq_true rfl) (Nat.le_of_ble_eq_true rfl) (by have e4 := p10_tn hl k12 k53 (Or.inr rfl); subst e4; exact lp_fail he1 he2 hg2)
            · have hlt3 : p2 + 1 < tp := sx_lt h0 (by omega)
              refine z_callVW (pc := 76) (q0 := 0) (ci := 8) (rest := []) F (c_X8_open_y l E r S (p2 + 1) (nI (a + c0.length)) op cd2 nm2 (by omega)) 0 ww_Model_199 (by decide +kernel) rfl (by constructor <;> (dsimp only; omega)) ⟨Nat.le_of_ble_eq_true rfl, Nat.le_of_ble_eq_true rfl⟩ rfl rfl rfl rfl (Nat.le_of_ble_eq_true rfl) dX8_readPath_76 (fun v_ w1_ hp => ?_)
              obtain ⟨rfl, rfl⟩ := hp
              show Z X (0) (0) (mw E r (mps S (nI ((p2 + 1) + 1)) (nI (a + c0.length)) (nI (op + 1)) cd2 nm2)) [(0, .ref (r 0)), (1, .int (nI (sx p2)))] 79 [.int (bI true)]
              rw [show (bI true) = 1 from rfl]
              refine z_if_eq (pc := 79) (tgt := 98) F dX8_readPath_79 (by decide) (fun h => absurd h (by decide)) (fun _ => ?_)
              refine z_aload_n (pc := 82) F dX8_readPath_82 rfl 0 rfl ?_
              obtain ⟨p3, c3, hh3⟩ := pthen_inv (p10_ty hl k12 k53 (by omega)); rcases hh3 with ⟨h3, e6⟩ | ⟨h3, e6⟩
              · skip
                refine z_callVW (pc := 83) (q0 := 0) (ci := 8) (rest := []) F (pC_n (ihX k' (by omega)) h3 (by omega) (by omega) (by omega)) 0 ww_Model_202 (by decide +kernel) rfl (by constructor <;> (dsimp only; omega)) ⟨Nat.le_of_ble_eq_true rfl, Nat.le_of_ble_eq_true rfl⟩ rfl rfl rfl rfl (Nat.le_of_ble_eq_true rfl) dX8_readPath_83 (fun v_ w1_ hp => ?_)
                obtain ⟨a3, op3, cd3, nm3, rfl, rfl, h83_0⟩ := hp
                show Z X (0) (0) (mw E r (mps S (nI p3) a3 op3 cd3 nm3)) [(0, .ref (r 0)), (1, .int (nI (sx p2)))] 86 [.int 0]
                refine z_if_eq (pc := 86) (tgt := 98) F dX8_readPath_86 (by decide) (fun _ => ?_) (fun h => absurd h (by decide))
                refine z_iconst (pc := 98) (v := 0) F dX8_readPath_98 (by decide) ?_
                exact z_zret (pc := 99) F hR rfl dX8_readPath_99 (Nat.le_of_ble_eq_true rfl) (Nat.le_of_ble_eq_true rfl) (by subst e6; exact lp_fail he1 he2 (agr_tr hg2 (by omega) h83_0))
              · have b3 : (p2 + 2) ≤ p3 ∧ ((p2 + 2) ≤ tp → p3 ≤ tp) ∧ c3.length ≤ 2 * (p3 - (p2 + 2)) := by simpa [bnd] using ps_b h0 _ _ _ _ _ (by decide) h3
                refine z_callVW (pc := 83) (q0 := 0) (ci := 8) (rest := []) F (pC_y (ihX k' (by omega)) h3 (by omega) (by omega) (by omega)) 0 ww_Model_202 (by decide +kernel) rfl (by constructor <;> (dsimp only; omega)) ⟨Nat.le_of_ble_eq_true rfl, Nat.le_of_ble_eq_true rfl⟩ rfl rfl rfl rfl (Nat.le_of_ble_eq_true rfl) dX8_readPath_83 (fun v_ w1_ hp => ?_)
                obtain ⟨cd3, nm3, rfl, rfl, h83_0, h83_1⟩ := hp
                show Z X (0) (0) (mw E r (mps S (nI p3) (nI ((a + c0.length) + c3.length)) (nI (op + 1)) cd3 nm3)) [(0, .ref (r 0)), (1, .int (nI (sx p2)))] 86 [.int 1]
                refine z_if_eq (pc := 86) (tgt := 98) F dX8_readPath_86 (by decide) (fun h => absurd h (by decide)) (fun _ => ?_)
                refine z_aload_n (pc := 89) F dX8_readPath_89 rfl 0 rfl ?_
                refine z_bipush (pc := 90) (v := 93) F dX8_readPath_90 (by decide) ?_
                rcases Classical.em (sx p3 = 93) with kc | kc
                · have hlt4 : p3 < tp := sx_lt h0 (by omega)
                  refine z_callVW (pc := 92) (q0 := 0) (ci := 8) (rest := []) F (c_X8_close_y l E r S tp sx p3 (nI ((a + c0.length) + c3.length)) op cd3 nm3 93 ht (by omega) (by decide) kc) 1 ww_Model_205 (by decide +kernel) rfl (by constructor <;> (dsimp only; omega)) ⟨Nat.le_of_ble_eq_true rfl, Nat.le_of_ble_eq_true rfl⟩ rfl rfl rfl rfl (Nat.le_of_ble_eq_true rfl) dX8_readPath_92 (fun v_ w1_ hp => ?_)
                  obtain ⟨rfl, rfl⟩ := hp
                  show Z X (0) (0) (mw E r (mps S (nI (p3 + 1)) (nI ((a + c0.length) + c3.length)) (nI op) cd3 nm3)) [(0, .ref (r 0)), (1, .int (nI (sx p2)))] 95 [.int (bI true)]
                  rw [show (bI true) = 1 from rfl]
                  refine z_if_ne (pc := 95) (tgt := 100) F dX8_readPath_95 (by decide) (fun _ => ?_) (fun h => absurd h (by decide))
                  refine z_aload_n (pc := 100) F dX8_readPath_100 rfl 0 rfl ?_
                  refine z_bipush (pc := 101) (v := 8) F dX8_readPath_101 (by decide) ?_
                  refine z_iconst (pc := 103) (v := 0) F dX8_readPath_103 (by decide) ?_
                  refine z_callVW (pc := 104) (q0 := 0) (ci := 8) (rest := []) F (c_X8_lay l E r S (p3 + 1) (nI op) cd3 nm3 nq ((a + c0.length) + c3.length) 8 0 hn6 hn3 (by omega)) 2 ww_Model_196 (by decide +kernel) rfl (by constructor <;> (dsimp only; omega)) ⟨Nat.le_of_ble_eq_true rfl, Nat.le_of_ble_eq_true rfl⟩ rfl rfl rfl rfl (Nat.le_of_ble_eq_true rfl) dX8_readPath_104 (fun v_ w1_ hp => ?_)
                  obtain ⟨rfl, rfl⟩ := hp
                  show Z X (0) (0) (mw E r (mps S (nI (p3 + 1)) (nI (((a + c0.length) + c3.length) + 1)) (nI op) (upd cd3 (240 * nq + ((a + c0.length) + c3.length)) (nI 8)) (upd nm3 (240 * nq + ((a + c0.length) + c3.length)) (nI 0)))) [(0, .ref (r 0)), (1, .int (nI (sx p2)))] 107 []
                  refine z_iconst (pc := 107) (v := 1) F dX8_readPath_107 (by decide) ?_
                  exact z_zret (pc := 108) F hR rfl dX8_readPath_108 (Nat.le_of_ble_eq_true rfl) (Nat.le_of_ble_eq_true rfl) (by have e4 := clo_y e6 kc; subst e4; exact lp_end2 (c0 := c0 ++ (c3 ++ [(8, 0)])) he1 he2 he3 (agr_lay (agr_tr hg2 (by omega) h83_0) (by omega)) (laid_app hl2 (agr_lay h83_0 (by omega)) (laid_lay h83_1)) (congrArg nI (by simp; omega)) rfl)
                · skip
                  refine z_callVW (pc := 92) (q0 := 0) (ci := 8) (rest := []) F (c_X8_close_n l E r S tp sx p3 (nI ((a + c0.length) + c3.length)) (nI (op + 1)) cd3 nm3 93 ht (by omega) (by decide) kc) 1 ww_Model_205 (by decide +kernel) rfl (by constructor <;> (dsimp only; omega)) ⟨Nat.le_of_ble_eq_true rfl, Nat.le_of_ble_eq_true rfl⟩ rfl rfl rfl rfl (Nat.le_of_ble_eq_true rfl) dX8_readPath_92 (fun v_ w1_ hp => ?_)
                  obtain ⟨rfl, rfl⟩ := hp
                  show Z X (0) (0) (mw E r (mps S (nI p3) (nI ((a + c0.length) + c3.length)) (nI (op + 1)) cd3 nm3)) [(0, .ref (r 0)), (1, .int (nI (sx p2)))] 95 [.int (bI false)]
                  rw [show (bI false) = 0 from rfl]
                  refine z_if_ne (pc := 95) (tgt := 100) F dX8_readPath_95 (by decide) (fun h => absurd h (by decide)) (fun _ => ?_)
                  refine z_iconst (pc := 98) (v := 0) F dX8_readPath_98 (by decide) ?_
                  exact z_zret (pc := 99) F hR rfl dX8_readPath_99 (Nat.le_of_ble_eq_true rfl) (Nat.le_of_ble_eq_true rfl) (by have e4 := clo_n e6 kc; subst e4; exact lp_fail he1 he2 (agr_tr hg2 (by omega) h83_0))
      · have k12 : sx p2 = 114 := nIe (b := 114) (by have := hsx (p2); omega) (by decide) c12
        refine z_aload_n (pc := 15) F dX8_readPath_15 rfl 0 rfl ?_
        refine z_dup (pc := 16) F dX8_readPath_16 rfl ?_
        refine z_get (pc := 17) (v := .int (nI p2)) F iX8 0 rfl rfl 35 (by decide) tw_893 rfl dX8_readPath_17 ?_
        refine z_iconst (pc := 20) (v := 1) F dX8_readPath_20 (by decide) ?_
        refine z_iadd (pc := 21) F dX8_readPath_21 ?_
        rw [show ((nI p2) + 1) = nI (p2 + 1) from (nI_1 _)]
        refine z_put (pc := 22) (ws' := mw E r (mps S (nI (p2 + 1)) (nI (a + c0.length)) (nI op) cd2 nm2)) F iX8 tyX8 tyX8_ok nmX8 0 rfl rfl 35 (by decide) tw_893 rfl rfl rfl (Nat.le_of_ble_eq_true rfl) dX8_readPath_22 rfl ?_
        refine z_aload_n (pc := 25) F dX8_readPath_25 rfl 0 rfl ?_
        refine z_bipush (pc := 26) (v := 46) F dX8_readPath_26 (by decide) ?_
        rcases Classical.em (sx (p2 + 1) = 46) with kw | kw
        · have hlt2 : p2 < tp := sx_lt h0 (by omega)
          have hlt3 : p2 + 1 < tp := sx_lt h0 (by omega)
          refine z_callVW (pc := 28) (q0 := 0) (ci := 8) (rest := []) F (c_X8_want_y l E r S tp sx (p2 + 1) (nI (a + c0.length)) (nI op) cd2 nm2 46 ht (by omega) (by decide) kw) 1 ww_Model_189 (by decide +kernel) rfl (by constructor <;> (dsimp only; omega)) ⟨Nat.le_of_ble_eq_true rfl, Nat.le_of_ble_eq_true rfl⟩ rfl rfl rfl rfl (Nat.le_of_ble_eq_true rfl) dX8_readPath_28 (fun v_ w1_ hp => ?_)
          obtain ⟨rfl, rfl⟩ := hp
          show Z X (0) (0) (mw E r (mps S (nI ((p2 + 1) + 1)) (nI (a + c0.length)) (nI op) cd2 nm2)) [(0, .ref (r 0))] 31 [.int (bI true)]
          rw [show (bI true) = 1 from rfl]
          refine z_if_ne (pc := 31) (tgt := 36) F dX8_readPath_31 (by decide) (fun _ => ?_) (fun h => absurd h (by decide))
          refine z_aload_n (pc := 36) F dX8_readPath_36 rfl 0 rfl ?_
          refine z_iconst (pc := 37) (v := 2) F dX8_readPath_37 (by decide) ?_
          refine z_iconst (pc := 38) (v := 0) F dX8_readPath_38 (by decide) ?_
          refine z_callVW (pc := 39) (q0 := 0) (ci := 8) (rest := []) F (c_X8_lay l E r S ((p2 + 1) + 1) (nI op) cd2 nm2 nq (a + c0.length) 2 0 hn6 hn3 (by omega)) 2 ww_Model_196 (by decide +kernel) rfl (by constructor <;> (dsimp only; omega)) ⟨Nat.le_of_ble_eq_true rfl, Nat.le_of_ble_eq_true rfl⟩ rfl rfl rfl rfl (Nat.le_of_ble_eq_true rfl) dX8_readPath_39 (fun v_ w1_ hp => ?_)
          obtain ⟨rfl, rfl⟩ := hp
          show Z X (0) (0) (mw E r (mps S (nI ((p2 + 1) + 1)) (nI ((a + c0.length) + 1)) (nI op) (upd cd2 (240 * nq + (a + c0.length)) (nI 2)) (upd nm2 (240 * nq + (a + c0.length)) (nI 0)))) [(0, .ref (r 0))] 42 []
          refine z_goto (pc := 42) (tgt := 6) F dX8_readPath_42 (by decide) ?_
          obtain ⟨R5, h5, e4⟩ := p10_ry hl k12 kw; subst e4; rw [show a + c0.length + 1 = a + (c0 ++ [(2, 0)]).length by simp; omega]; exact ih6 k' (p2 + 2) _ _ _ R5 (by omega) (by omega) h5 he1 he2 (by rw [List.append_assoc]; exact he3) (by omega) (by simp; omega) (agr_lay hg2 (by omega)) (laid_lay hl2)
        · have hlt2 : p2 < tp := sx_lt h0 (by omega)
          refine z_callVW (pc := 28) (q0 := 0) (ci := 8) (rest := []) F (c_X8_want_n l E r S tp sx (p2 + 1) (nI (a + c0.length)) (nI op) cd2 nm2 46 ht (by omega) (by decide) kw) 1 ww_Model_189 (by decide +kernel) rfl (by constructor <;> (dsimp only; omega)) ⟨Nat.le_of_ble_eq_true rfl, Nat.le_of_ble_eq_true rfl⟩ rfl rfl rfl rfl (Nat.le_of_ble_eq_true rfl) dX8_readPath_28 (fun v_ w1_ hp => ?_)
          obtain ⟨rfl, rfl⟩ := hp
          show Z X (0) (0) (mw E r (mps S (nI (p2 + 1)) (nI (a + c0.length)) (nI op) cd2 nm2)) [(0, .ref (r 0))] 31 [.int (bI false)]
          rw [show (bI false) = 0 from rfl]
          refine z_if_ne (pc := 31) (tgt := 36) F dX8_readPath_31 (by decide) (fun h => absurd h (by decide)) (fun _ => ?_)
          refine z_iconst (pc := 34) (v := 0) F dX8_readPath_34 (by decide) ?_
          exact z_zret (pc := 35) F hR rfl dX8_readPath_35 (Nat.le_of_ble_eq_true rfl) (Nat.le_of_ble_eq_true rfl) (by have e4 := p10_rn hl k12 kw; subst e4; exact lp_fail he1 he2 hg2)
  exact L6 _ n p [(1, 0)] _ _ R0 (Nat.lt_succ_self _) (Nat.le_refl _) hR0 rfl rfl rfl hp (by simp; omega) (agr_lay (agr_rf _ _ _) (Nat.le_refl _)) (laid_lay (laid_nil cd nm _))
set_option maxHeartbeats 4000000 in
set_option maxRecDepth 100000 in
theorem c_X8_readFactor_p (l : Launch) (E : zE) (r : Nat → Nat) (S : zS) (nq : Nat) (tp : Nat) (sx : Nat → Nat) (n : Nat) (p : Nat) (op : Nat) (a : Nat) (cd : Nat → Int32) (nm : Nat → Int32) (R : zRs) (ht : tpo S tp sx) (hn6 : nq < 6) (hn3 : zi S 3 = nI nq) (ihI : ∀ m : Nat, m < n → pC l E r S nq tp yX8_readX cX8_readX 2 (fun p op R => ps sx m 5 p op = some R) m) (ihP : ∀ m : Nat, m < n → pC l E r S nq tp yX8_readPath cX8_readPath 2 (fun p op R => pcat [(1, 0)] (ps sx m 10 p op) = some R) m) (hH : ps sx n 9 p op = some R) (hp : p ≤ tp) (ha : a ≤ 2 * p) (hop : op ≤ 12) : Ct l yX8_readFactor cX8_readFactor 3 (some .boolean) (prm n) E (mw E r (mps S (nI p) (nI a) (nI op) cd nm)) [.ref (r 0)] (fun v_ w_ => ∃ a' : Int32, ∃ op' : Int32, ∃ cd' : Nat → Int32, ∃ nm' : Nat → Int32, v_ = some (.int (bI R.1)) ∧ w_ = mw E r (mps S (nI R.2.1) a' op' cd' nm') ∧ (agr (240 * nq + a) cd nm cd' nm') ∧ (R.1 = true → a' = nI (a + R.2.2.length) ∧ op' = nI op ∧ laid cd' nm' (240 * nq + a) R.2.2)) := by
  refine Ct.of (by decide) (Nat.le_of_ble_eq_true rfl) (lv := [(0, .ref (r 0))]) rfl ?_
  intro X F hR
  have F : zF X l (prm n) E cX8_readFactor 3 "LiveQueriesModel" := F
  have htp := ht.2.1
  have hsx := ht.2.2.2.2
  have h0 := ht.2.2.2.1
  refine z_iconst (pc := 0) (v := 0) F dX8_readFactor_0 (by decide) ?_
  refine z_istore_n (pc := 1) (lv' := [(0, .ref (r 0)), (1, .int 0)]) F dX8_readFactor_1 rfl (by decide) [1, 0] rfl ?_
  have L2 : ∀ (N : Nat) (k : Nat) (mm : Nat) (R4 : zRs), k < N → (k ≤ n) → (ps sx k 9 (p + mm) (op + mm) = some R4) → (wrO 9 mm R R4) → (p + mm ≤ tp) → (op + mm ≤ 12) → Z X (0) (0) (mw E r (mps S (nI (p + mm)) (nI a) (nI (op + mm)) cd nm)) [(0, .ref (r 0)), (1, .int (nI mm))] 2 [] := by
    intro N
    induction N with
    | zero => intro k mm R4 hN; exact absurd hN (Nat.not_lt_zero _)
    | succ N ih2 =>
      intro k mm R4 hN hk hl hw hp2 ho2
      obtain ⟨k', rfl⟩ : ∃ k', k = k' + 1 := by cases k with | zero => cases hl | succ k' => exact ⟨k', rfl⟩
      refine z_aload_n (pc := 2) F dX8_readFactor_2 rfl 0 rfl ?_
      refine z_callVW (pc := 3) (q0 := 0) (ci := 8) (rest := []) F (c_X8_see l E r S tp sx (p + mm) (nI a) (nI (op + mm)) cd nm ht hp2) 0 ww_Model_180 (by decide +kernel) rfl (by constructor <;> (dsimp only; omega)) ⟨Nat.le_of_ble_eq_true rfl, Nat.le_of_ble_eq_true rfl⟩ rfl rfl rfl rfl (Nat.le_of_ble_eq_true rfl) dX8_readFactor_3 (fun v_ w1_ hp => ?_)
      obtain ⟨rfl, rfl⟩ := hp
      show Z X (0) (0) (mw E r (mps S (nI (p + mm)) (nI a) (nI (op + mm)) cd nm)) [(0, .ref (r 0)), (1, .int (nI mm))] 6 [.int (nI (sx (p + mm)))]
      refine z_bipush (pc := 6) (v := 45) F dX8_readFactor_6 (by decide) ?_
      refine z_icmp_ne (pc := 8) (tgt := 26) F dX8_readFactor_8 (by decide) (fun c8 => ?_) (fun c8 => ?_)
      · have k8 : ¬ sx (p + mm) = 45 := fun h => c8 (by rw [h]; rfl)
        refine z_aload_n (pc := 26) F dX8_readFactor_26 rfl 0 rfl ?_
        refine z_callVW (pc := 27) (q0 := 0) (ci := 8) (rest := []) F (c_X8_see l E r S tp sx (p + mm) (nI a) (nI (op + mm)) cd nm ht hp2) 0 ww_Model_180 (by decide +kernel) rfl (by constructor <;> (dsimp only; omega)) ⟨Nat.le_of_ble_eq_true rfl, Nat.le_of_ble_eq_true rfl⟩ rfl rfl rfl rfl (Nat.le_of_ble_eq_true rfl) dX8_readFactor_27 (fun v_ w1_ hp => ?_)
        obtain ⟨rfl, rfl⟩ := hp
        show Z X (0) (0) (mw E r (mps S (nI (p + mm)) (nI a) (nI (op + mm)) cd nm)) [(0, .ref (r 0)), (1, .int (nI mm))] 30 [.int (nI (sx (p + mm)))]
        refine z_bipush (pc := 30) (v := 40) F dX8_readFactor_30 (by decide) ?_
        refine z_icmp_ne (pc := 32) (tgt := 60) F dX8_readFactor_32 (by decide) (fun c32 => ?_) (fun c32 => ?_)
        · have k32 : ¬ sx (p + mm) = 40 := fun h => c32 (by rw [h]; rfl)
          refine z_aload_n (pc := 60) F dX8_readFactor_60 rfl 0 rfl ?_
          refine z_callVW (pc := 61) (q0 := 0) (ci := 8) (rest := []) F (c_X8_isDigit l E r S tp sx (p + mm) (nI a) (nI (op + mm)) cd nm ht hp2) 0 ww_Model_192 (by decide +kernel) rfl (by constructor <;> (dsimp only; omega)) ⟨Nat.le_of_ble_eq_true rfl, Nat.le_of_ble_eq_true rfl⟩ rfl rfl rfl rfl (Nat.le_of_ble_eq_true rfl) dX8_readFactor_61 (fun v_ w1_ hp => ?_)
          obtain ⟨rfl, rfl⟩ := hp
          show Z X (0) (0) (mw E r (mps S (nI (p + mm)) (nI a) (nI (op + mm)) cd nm)) [(0, .ref (r 0)), (1, .int (nI mm))] 64 [.int (bI (isD (sx (p + mm))))]
          refine z_if_eq (pc := 64) (tgt := 76) F dX8_readFactor_64 (by decide) (fun c64 => ?_) (fun c64 => ?_)
          · replace c64 := bI_f c64
            refine z_aload_n (pc := 76) F dX8_readFactor_76 rfl 0 rfl ?_
            obtain ⟨⟨b4, p3, c3⟩, hR4, e6⟩ : ∃ R9 : zRs, pcat [(1, 0)] (ps sx k' 10 (p + mm) (op + mm)) = some R9 ∧ R4 = R9 := ⟨R4, p9_x hl k8 k32 c64, rfl⟩; cases b4
            · skip
              refine z_callVW (pc := 77) (q0 := 0) (ci := 8) (rest := []) F (pC_n (ihP k' (by omega)) hR4 (by omega) (by omega) (by omega)) 0 ww_Model_211 (by decide +kernel) rfl (by constructor <;> (dsimp only; omega)) ⟨Nat.le_of_ble_eq_true rfl, Nat.le_of_ble_eq_true rfl⟩ rfl rfl rfl rfl (Nat.le_of_ble_eq_true rfl) dX8_readFactor_77 (fun v_ w1_ hp => ?_)
              obtain ⟨a3, op3, cd3, nm3, rfl, rfl, hA3⟩ := hp
              show Z X (0) (0) (mw E r (mps S (nI p3) a3 op3 cd3 nm3)) [(0, .ref (r 0)), (1, .int (nI mm))] 80 [.int 0]
              refine z_if_ne (pc := 80) (tgt := 85) F dX8_readFactor_80 (by decide) (fun h => absurd h (by decide)) (fun _ => ?_)
              refine z_iconst (pc := 83) (v := 0) F dX8_readFactor_83 (by decide) ?_
              exact z_zret (pc := 84) F hR rfl dX8_readFactor_84 (Nat.le_of_ble_eq_true rfl) (Nat.le_of_ble_eq_true rfl) (by subst e6; exact lp_fail hw.1 hw.2.1 hA3)
            · have b3 : p + mm ≤ p3 ∧ (p + mm ≤ tp → p3 ≤ tp) ∧ c3.length ≤ 2 * (p3 - (p + mm)) := by subst e6; simpa [bnd] using ps_b h0 _ _ _ _ _ (by decide) hl
              refine z_callVW (pc := 77) (q0 := 0) (ci := 8) (rest := []) F (pC_y (ihP k' (by omega)) hR4 (by omega) (by omega) (by omega)) 0 ww_Model_211 (by decide +kernel) rfl (by constructor <;> (dsimp only; omega)) ⟨Nat.le_of_ble_eq_true rfl, Nat.le_of_ble_eq_true rfl⟩ rfl rfl rfl rfl (Nat.le_of_ble_eq_true rfl) dX8_readFactor_77 (fun v_ w1_ hp => ?_)
              obtain ⟨cd3, nm3, rfl, rfl, hA3, hL3⟩ := hp
              show Z X (0) (0) (mw E r (mps S (nI p3) (nI (a + c3.length)) (nI (op + mm)) cd3 nm3)) [(0, .ref (r 0)), (1, .int (nI mm))] 80 [.int 1]
              refine z_if_ne (pc := 80) (tgt := 85) F dX8_readFactor_80 (by decide) (fun _ => ?_) (fun h => absurd h (by decide))
              refine z_iconst (pc := 85) (v := 0) F dX8_readFactor_85 (by decide) ?_
              refine z_istore_n (pc := 86) (lv' := [(0, .ref (r 0)), (1, .int (nI mm)), (2, .int 0)]) F dX8_readFactor_86 rfl (by decide) [1, 2, 0] rfl ?_
              have L87 : ∀ (N : Nat) (j : Nat) (cd7 : Nat → Int32) (nm7 : Nat → Int32), (mm - j) < N → (j ≤ mm) → (agr (240 * nq + a) cd nm cd7 nm7) → (laid cd7 nm7 (240 * nq + a) (c3 ++ List.replicate j (9, 0))) → Z X (0) (0) (mw E r (mps S (nI p3) (nI (a + c3.length + j)) (nI (op + (mm - j))) cd7 nm7)) [(0, .ref (r 0)), (1, .int (nI mm)), (2, .int (nI j))] 87 [] := by
                intro N
                induction N with
                | zero => intro j cd7 nm7 hN; exact absurd hN (Nat.not_lt_zero _)
                | succ N ih87 =>
                  intro j cd7 nm7 hN hj hA7 hL7
                  refine z_iload_n (pc := 87) F dX8_readFactor_87 rfl 2 rfl ?_
                  refine z_iload_n (pc := 88) F dX8_readFactor_88 rfl 1 rfl ?_
                  refine z_icmp_ge (pc := 89) (tgt := 115) F dX8_readFactor_89 (by decide) (fun c89 => ?_) (fun c89 => ?_)
                  · have hje : j = mm := Nat.le_antisymm hj (gI (by omega) (by omega) c89)
                    subst hje
                    refine z_iconst (pc := 115) (v := 1) F dX8_readFactor_115 (by decide) ?_
                    exact z_zret (pc := 116) F hR rfl dX8_readFactor_116 (Nat.le_of_ble_eq_true rfl) (Nat.le_of_ble_eq_true rfl) (by have hw3 := hw.2.2 (by rw [e6]; try rfl); rw [e6] at hw hw3; exact lp_end2 hw.1 hw.2.1 hw3 hA7 hL7 (congrArg nI (by simp; omega)) (congrArg nI (by omega)))
                  · have hjl := ngI (by omega) (by omega) c89
                    refine z_aload_n (pc := 92) F dX8_readFactor_92 rfl 0 rfl ?_
                    refine z_bipush (pc := 93) (v := 9) F dX8_readFactor_93 (by decide) ?_
                    refine z_iconst (pc := 95) (v := 0) F dX8_readFactor_95 (by decide) ?_
                    refine z_callVW (pc := 96) (q0 := 0) (ci := 8) (rest := []) F (c_X8_lay l E r S p3 (nI (op + (mm - j))) cd7 nm7 nq (a + c3.length + j) 9 0 hn6 hn3 (by first | omega | (simp only [List.length_cons, List.length_nil, List.length_append]; omega))) 2 ww_Model_196 (by decide +kernel) rfl (by constructor <;> (dsimp only; omega)) ⟨Nat.le_of_ble_eq_true rfl, Nat.le_of_ble_eq_true rfl⟩ rfl rfl rfl rfl (Nat.le_of_ble_eq_true rfl) dX8_readFactor_96 (fun v_ w1_ hp => ?_)
                    obtain ⟨rfl, rfl⟩ := hp
                    show Z X (0) (0) (mw E r (mps S (nI p3) (nI ((a + c3.length + j) + 1)) (nI (op + (mm - j))) (upd cd7 (240 * nq + (a + c3.length + j)) (nI 9)) (upd nm7 (240 * nq + (a + c3.length + j)) (nI 0)))) [(0, .ref (r 0)), (1, .int (nI mm)), (2, .int (nI j))] 99 []
                    refine z_aload_n (pc := 99) F dX8_readFactor_99 rfl 0 rfl ?_
                    refine z_dup (pc := 100) F dX8_readFactor_100 rfl ?_
                    refine z_get (pc := 101) (v := .int (nI (op + (mm - j)))) F iX8 0 rfl rfl 37 (by decide) tw_895 rfl dX8_readFactor_101 ?_
                    refine z_iconst (pc := 104) (v := 1) F dX8_readFactor_104 (by decide) ?_
                    refine z_isub (pc := 105) F dX8_readFactor_105 ?_
                    rw [show ((nI (op + (mm - j))) - 1) = nI (op + (mm - (j + 1))) from (by rw [show op + (mm - j) = (op + (mm - (j + 1))) + 1 by omega]; exact nI_pred _)]
                    refine z_put (pc := 106) (ws' := mw E r (mps S (nI p3) (nI ((a + c3.length + j) + 1)) (nI (op + (mm - (j + 1)))) (upd cd7 (240 * nq + (a + c3.length + j)) (nI 9)) (upd nm7 (240 * nq + (a + c3.length + j)) (nI 0)))) F iX8 tyX8 tyX8_ok nmX8 0 rfl rfl 37 (by decide) tw_895 rfl rfl rfl (Nat.le_of_ble_eq_true rfl) dX8_readFactor_106 rfl ?_
                    refine z_iinc (pc := 109) (v := nI (j + 1)) (lv' := [(0, .ref (r 0)), (1, .int (nI mm)), (2, .int (nI (j + 1)))]) F (j := 2) dX8_readFactor_109 rfl (nI_1 _) (by decide) [1, 2, 0] rfl ?_
                    refine z_goto (pc := 112) (tgt := 87) F dX8_readFactor_112 (by decide) ?_
                    exact ih87 (j + 1) _ _ (by omega) (by omega) (agr_lay hA7 (by omega)) (by rw [rep_s, ← List.append_assoc]; have h9 := laid_lay (o := 9) (v := 0) hL7; rw [show a + (c3 ++ List.replicate j ((9, 0) : Nat × Nat)).length = a + c3.length + j from by rw [List.length_append, List.length_replicate]; omega] at h9; exact h9)
              exact L87 _ 0 _ _ (Nat.lt_succ_self _) (Nat.zero_le _) hA3 (by rw [List.replicate_zero, List.append_nil]; exact hL3)
          · replace c64 := bI_t c64
            refine z_aload_n (pc := 67) F dX8_readFactor_67 rfl 0 rfl ?_
            refine z_callVW (pc := 68) (q0 := 0) (ci := 8) (rest := []) F (c_X8_readNumber l E r S tp sx (p + mm) (nI (op + mm)) cd nm nq a ht hp2 hn6 hn3 (by omega)) 0 ww_Model_208 (by decide +kernel) rfl (by constructor <;> (dsimp only; omega)) ⟨Nat.le_of_ble_eq_true rfl, Nat.le_of_ble_eq_true rfl⟩ rfl rfl rfl rfl (Nat.le_of_ble_eq_true rfl) dX8_readFactor_68 (fun v_ w1_ hp => ?_)
            obtain ⟨rfl, rfl⟩ := hp
            show Z X (0) (0) (mw E r (mps S (nI (dgs sx 9 (p + mm) 0).1) (nI (a + 1)) (nI (op + mm)) (upd cd (240 * nq + a) (nI 0)) (upd nm (240 * nq + a) (nI (dgs sx 9 (p + mm) 0).2)))) [(0, .ref (r 0)), (1, .int (nI mm))] 71 [.int (bI (!isD (sx (dgs sx 9 (p + mm) 0).1)))]
            refine z_if_ne (pc := 71) (tgt := 85) F dX8_readFactor_71 (by decide) (fun c71 => ?_) (fun c71 => ?_)
            · replace c71 := bI_t c71
              have c71 : isD (sx (dgs sx 9 (p + mm) 0).1) = false := by simpa using c71
              have hdb := dgs_b h0 9 (p + mm) 0
              have hdb2 := hdb.2.1 hp2
              refine z_iconst (pc := 85) (v := 0) F dX8_readFactor_85 (by decide) ?_
              refine z_istore_n (pc := 86) (lv' := [(0, .ref (r 0)), (1, .int (nI mm)), (2, .int 0)]) F dX8_readFactor_86 rfl (by decide) [1, 2, 0] rfl ?_
              have L87 : ∀ (N : Nat) (j : Nat) (cd7 : Nat → Int32) (nm7 : Nat → Int32), (mm - j) < N → (j ≤ mm) → (agr (240 * nq + a) cd nm cd7 nm7) → (laid cd7 nm7 (240 * nq + a) (([(0, (dgs sx 9 (p + mm) 0).2)] : List (Nat × Nat)) ++ List.replicate j (9, 0))) → Z X (0) (0) (mw E r (mps S (nI (dgs sx 9 (p + mm) 0).1) (nI (a + ([(0, (dgs sx 9 (p + mm) 0).2)] : List (Nat × Nat)).length + j)) (nI (op + (mm - j))) cd7 nm7)) [(0, .ref (r 0)), (1, .int (nI mm)), (2, .int (nI j))] 87 [] := by
                intro N
                induction N with
                | zero => intro j cd7 nm7 hN; exact absurd hN (Nat.not_lt_zero _)
                | succ N ih87 =>
                  intro j cd7 nm7 hN hj hA7 hL7
                  refine z_iload_n (pc := 87) F dX8_readFactor_87 rfl 2 rfl ?_
                  refine z_iload_n (pc := 88) F dX8_readFactor_88 rfl 1 rfl ?_
                  refine z_icmp_ge (pc := 89) (tgt := 115) F dX8_readFactor_89 (by decide) (fun c89 => ?_) (fun c89 => ?_)
                  · have hje : j = mm := Nat.le_antisymm hj (gI (by omega) (by omega) c89)
                    subst hje
                    refine z_iconst (pc := 115) (v := 1) F dX8_readFactor_115 (by decide) ?_
                    exact z_zret (pc := 116) F hR rfl dX8_readFactor_116 (Nat.le_of_ble_eq_true rfl) (Nat.le_of_ble_eq_true rfl) (by have hw3 := hw.2.2 (by rw [p9_d hl k8 k32 c64, c71]; try rfl); rw [p9_d hl k8 k32 c64, c71] at hw hw3; exact lp_end2 hw.1 hw.2.1 hw3 hA7 hL7 (congrArg nI (by simp; omega)) (congrArg nI (by omega)))
                  · have hjl := ngI (by omega) (by omega) c89
                    refine z_aload_n (pc := 92) F dX8_readFactor_92 rfl 0 rfl ?_
                    refine z_bipush (pc := 93) (v := 9) F dX8_readFactor_93 (by decide) ?_
                    refine z_iconst (pc := 95) (v := 0) F dX8_readFactor_95 (by decide) ?_
                    refine z_callVW (pc := 96) (q0 := 0) (ci := 8) (rest := []) F (c_X8_lay l E r S ((dgs sx 9 (p + mm) 0).1) (nI (op + (mm - j))) cd7 nm7 nq (a + ([(0, (dgs sx 9 (p + mm) 0).2)] : List (Nat × Nat)).length + j) 9 0 hn6 hn3 (by first | omega | (simp only [List.length_cons, List.length_nil, List.length_append]; omega))) 2 ww_Model_196 (by decide +kernel) rfl (by constructor <;> (dsimp only; omega)) ⟨Nat.le_of_ble_eq_true rfl, Nat.le_of_ble_eq_true rfl⟩ rfl rfl rfl rfl (Nat.le_of_ble_eq_true rfl) dX8_readFactor_96 (fun v_ w1_ hp => ?_)
                    obtain ⟨rfl, rfl⟩ := hp
                    show Z X (0) (0) (mw E r (mps S (nI ((dgs sx 9 (p + mm) 0).1)) (nI ((a + ([(0, (dgs sx 9 (p + mm) 0).2)] : List (Nat × Nat)).length + j) + 1)) (nI (op + (mm - j))) (upd cd7 (240 * nq + (a + ([(0, (dgs sx 9 (p + mm) 0).2)] : List (Nat × Nat)).length + j)) (nI 9)) (upd nm7 (240 * nq + (a + ([(0, (dgs sx 9 (p + mm) 0).2)] : List (Nat × Nat)).length + j)) (nI 0)))) [(0, .ref (r 0)), (1, .int (nI mm)), (2, .int (nI j))] 99 []
                    refine z_aload_n (pc := 99) F dX8_readFactor_99 rfl 0 rfl ?_
                    refine z_dup (pc := 100) F dX8_readFactor_100 rfl ?_
                    refine z_get (pc := 101) (v := .int (nI (op + (mm - j)))) F iX8 0 rfl rfl 37 (by decide) tw_895 rfl dX8_readFactor_101 ?_
                    refine z_iconst (pc := 104) (v := 1) F dX8_readFactor_104 (by decide) ?_
                    refine z_isub (pc := 105) F dX8_readFactor_105 ?_
                    rw [show ((nI (op + (mm - j))) - 1) = nI (op + (mm - (j + 1))) from (by rw [show op + (mm - j) = (op + (mm - (j + 1))) + 1 by omega]; exact nI_pred _)]
                    refine z_put (pc := 106) (ws' := mw E r (mps S (nI ((dgs sx 9 (p + mm) 0).1)) (nI ((a + ([(0, (dgs sx 9 (p + mm) 0).2)] : List (Nat × Nat)).length + j) + 1)) (nI (op + (mm - (j + 1)))) (upd cd7 (240 * nq + (a + ([(0, (dgs sx 9 (p + mm) 0).2)] : List (Nat × Nat)).length + j)) (nI 9)) (upd nm7 (240 * nq + (a + ([(0, (dgs sx 9 (p + mm) 0).2)] : List (Nat × Nat)).length + j)) (nI 0)))) F iX8 tyX8 tyX8_ok nmX8 0 rfl rfl 37 (by decide) tw_895 rfl rfl rfl (Nat.le_of_ble_eq_true rfl) dX8_readFactor_106 rfl ?_
                    refine z_iinc (pc := 109) (v := nI (j + 1)) (lv' := [(0, .ref (r 0)), (1, .int (nI mm)), (2, .int (nI (j + 1)))]) F (j := 2) dX8_readFactor_109 rfl (nI_1 _) (by decide) [1, 2, 0] rfl ?_
                    refine z_goto (pc := 112) (tgt := 87) F dX8_readFactor_112 (by decide) ?_
                    exact ih87 (j + 1) _ _ (by omega) (by omega) (agr_lay hA7 (by omega)) (by rw [rep_s, ← List.append_assoc]; have h9 := laid_lay (o := 9) (v := 0) hL7; rw [show a + (([(0, (dgs sx 9 (p + mm) 0).2)] : List (Nat × Nat)) ++ List.replicate j ((9, 0) : Nat × Nat)).length = a + ([(0, (dgs sx 9 (p + mm) 0).2)] : List (Nat × Nat)).length + j from by rw [List.length_append, List.length_replicate]; omega] at h9; exact h9)
              exact L87 _ 0 _ _ (Nat.lt_succ_self _) (Nat.zero_le _) (agr_lay (agr_rf _ _ _) (Nat.le_refl _)) (by rw [List.replicate_zero, List.append_nil]; exact (laid_lay (laid_nil cd nm _)))
            · replace c71 := bI_f c71
              have c71 : isD (sx (dgs sx 9 (p + mm) 0).1) = true := by simpa using c71
              refine z_iconst (pc := 74) (v := 0) F dX8_readFactor_74 (by decide) ?_
              exact z_zret (pc := 75) F hR rfl dX8_readFactor_75 (Nat.le_of_ble_eq_true rfl) (Nat.le_of_ble_eq_true rfl) (by have e4 := p9_d hl k8 k32 c64; rw [c71] at e4; subst e4; exact lp_fail hw.1 hw.2.1 (agr_lay (agr_rf _ _ _) (Nat.le_refl _)))
        · have k32 : sx (p + mm) = 40 := nIe (b := 40) (by have := hsx ((p + mm)); omega) (by decide) c32
          refine z_aload_n (pc := 35) F dX8_readFactor_35 rfl 0 rfl ?_
          rcases Classical.em (op + mm = 12) with ko | ko
          · have hlt2 : p + mm < tp := sx_lt h0 (by omega)
            rw [ko]
            refine z_callVW (pc := 36) (q0 := 0) (ci := 8) (rest := []) F (c_X8_open_n l E r S (p + mm) (nI a) cd nm) 0 ww_Model_199 (by decide +kernel) rfl (by constructor <;> (dsimp only; omega)) ⟨Nat.le_of_ble_eq_true rfl, Nat.le_of_ble_eq_true rfl⟩ rfl rfl rfl rfl (Nat.le_of_ble_eq_true rfl) dX8_readFactor_36 (fun v_ w1_ hp => ?_)
            obtain ⟨rfl, rfl⟩ := hp
            show Z X (0) (0) (mw E r (mps S (nI (p + mm)) (nI a) (nI 12) cd nm)) [(0, .ref (r 0)), (1, .int (nI mm))] 39 [.int (bI false)]
            rw [show (bI false) = 0 from rfl]
            refine z_if_eq (pc := 39) (tgt := 58) F dX8_readFactor_39 (by decide) (fun _ => ?_) (fun h => absurd h (by decide))
            refine z_iconst (pc := 58) (v := 0) F dX8_readFactor_58 (by decide) ?_
            exact z_zret (pc := 59) F hR rfl dX8_readFactor_59 (Nat.le_of_ble_eq_true rfl) (Nat.le_of_ble_eq_true rfl) (by have e4 := p9_pn hl k8 k32 ko; subst e4; exact lp_fail hw.1 hw.2.1 (agr_rf _ _ _))
          · have hlt2 : p + mm < tp := sx_lt h0 (by omega)
            refine z_callVW (pc := 36) (q0 := 0) (ci := 8) (rest := []) F (c_X8_open_y l E r S (p + mm) (nI a) (op + mm) cd nm (by omega)) 0 ww_Model_199 (by decide +kernel) rfl (by constructor <;> (dsimp only; omega)) ⟨Nat.le_of_ble_eq_true rfl, Nat.le_of_ble_eq_true rfl⟩ rfl rfl rfl rfl (Nat.le_of_ble_eq_true rfl) dX8_readFactor_36 (fun v_ w1_ hp => ?_)
            obtain ⟨rfl, rfl⟩ := hp
            show Z X (0) (0) (mw E r (mps S (nI ((p + mm) + 1)) (nI a) (nI ((op + mm) + 1)) cd nm)) [(0, .ref (r 0)), (1, .int (nI mm))] 39 [.int (bI true)]
            rw [show (bI true) = 1 from rfl]
            refine z_if_eq (pc := 39) (tgt := 58) F dX8_readFactor_39 (by decide) (fun h => absurd h (by decide)) (fun _ => ?_)
            refine z_aload_n (pc := 42) F dX8_readFactor_42 rfl 0 rfl ?_
            obtain ⟨p3, c3, hh3⟩ := pthen_inv (p9_py hl k8 k32 ko); rcases hh3 with ⟨h3, e6⟩ | ⟨h3, e6⟩
            · skip
              refine z_callVW (pc := 43) (q0 := 0) (ci := 8) (rest := []) F (pC_n (ihI k' (by omega)) h3 (by omega) (by omega) (by omega)) 0 ww_Model_202 (by decide +kernel) rfl (by constructor <;> (dsimp only; omega)) ⟨Nat.le_of_ble_eq_true rfl, Nat.le_of_ble_eq_true rfl⟩ rfl rfl rfl rfl (Nat.le_of_ble_eq_true rfl) dX8_readFactor_43 (fun v_ w1_ hp => ?_)
              obtain ⟨a3, op3, cd3, nm3, rfl, rfl, hA3⟩ := hp
              show Z X (0) (0) (mw E r (mps S (nI p3) a3 op3 cd3 nm3)) [(0, .ref (r 0)), (1, .int (nI mm))] 46 [.int 0]
              refine z_if_eq (pc := 46) (tgt := 58) F dX8_readFactor_46 (by decide) (fun _ => ?_) (fun h => absurd h (by decide))
              refine z_iconst (pc := 58) (v := 0) F dX8_readFactor_58 (by decide) ?_
              exact z_zret (pc := 59) F hR rfl dX8_readFactor_59 (Nat.le_of_ble_eq_true rfl) (Nat.le_of_ble_eq_true rfl) (by subst e6; exact lp_fail hw.1 hw.2.1 hA3)
            · have b3 : (p + mm + 1) ≤ p3 ∧ ((p + mm + 1) ≤ tp → p3 ≤ tp) ∧ c3.length ≤ 2 * (p3 - (p + mm + 1)) := by simpa [bnd] using ps_b h0 _ _ _ _ _ (by decide) h3
              refine z_callVW (pc := 43) (q0 := 0) (ci := 8) (rest := []) F (pC_y (ihI k' (by omega)) h3 (by omega) (by omega) (by omega)) 0 ww_Model_202 (by decide +kernel) rfl (by constructor <;> (dsimp only; omega)) ⟨Nat.le_of_ble_eq_true rfl, Nat.le_of_ble_eq_true rfl⟩ rfl rfl rfl rfl (Nat.le_of_ble_eq_true rfl) dX8_readFactor_43 (fun v_ w1_ hp => ?_)
              obtain ⟨cd3, nm3, rfl, rfl, hA3, hL3⟩ := hp
              show Z X (0) (0) (mw E r (mps S (nI p3) (nI (a + c3.length)) (nI ((op + mm) + 1)) cd3 nm3)) [(0, .ref (r 0)), (1, .int (nI mm))] 46 [.int 1]
              refine z_if_eq (pc := 46) (tgt := 58) F dX8_readFactor_46 (by decide) (fun h => absurd h (by decide)) (fun _ => ?_)
              refine z_aload_n (pc := 49) F dX8_readFactor_49 rfl 0 rfl ?_
              refine z_bipush (pc := 50) (v := 41) F dX8_readFactor_50 (by decide) ?_
              rcases Classical.em (sx p3 = 41) with kc | kc
              · have hlt4 : p3 < tp := sx_lt h0 (by omega)
                refine z_callVW (pc := 52) (q0 := 0) (ci := 8) (rest := []) F (c_X8_close_y l E r S tp sx p3 (nI (a + c3.length)) (op + mm) cd3 nm3 41 ht (by omega) (by decide) kc) 1 ww_Model_205 (by decide +kernel) rfl (by constructor <;> (dsimp only; omega)) ⟨Nat.le_of_ble_eq_true rfl, Nat.le_of_ble_eq_true rfl⟩ rfl rfl rfl rfl (Nat.le_of_ble_eq_true rfl) dX8_readFactor_52 (fun v_ w1_ hp => ?_)
                obtain ⟨rfl, rfl⟩ := hp
                show Z X (0) (0) (mw E r (mps S (nI (p3 + 1)) (nI (a + c3.length)) (nI (op + mm)) cd3 nm3)) [(0, .ref (r 0)), (1, .int (nI mm))] 55 [.int (bI true)]
                rw [show (bI true) = 1 from rfl]
                refine z_if_ne (pc := 55) (tgt := 85) F dX8_readFactor_55 (by decide) (fun _ => ?_) (fun h => absurd h (by decide))
                refine z_iconst (pc := 85) (v := 0) F dX8_readFactor_85 (by decide) ?_
                refine z_istore_n (pc := 86) (lv' := [(0, .ref (r 0)), (1, .int (nI mm)), (2, .int 0)]) F dX8_readFactor_86 rfl (by decide) [1, 2, 0] rfl ?_
                have L87 : ∀ (N : Nat) (j : Nat) (cd7 : Nat → Int32) (nm7 : Nat → Int32), (mm - j) < N → (j ≤ mm) → (agr (240 * nq + a) cd nm cd7 nm7) → (laid cd7 nm7 (240 * nq + a) (c3 ++ List.replicate j (9, 0))) → Z X (0) (0) (mw E r (mps S (nI (p3 + 1)) (nI (a + c3.length + j)) (nI (op + (mm - j))) cd7 nm7)) [(0, .ref (r 0)), (1, .int (nI mm)), (2, .int (nI j))] 87 [] := by
                  intro N
                  induction N with
                  | zero => intro j cd7 nm7 hN; exact absurd hN (Nat.not_lt_zero _)
                  | succ N ih87 =>
                    intro j cd7 nm7 hN hj hA7 hL7
                    refine z_iload_n (pc := 87) F dX8_readFactor_87 rfl 2 rfl ?_
                    refine z_iload_n (pc := 88) F dX8_readFactor_88 rfl 1 rfl ?_
                    refine z_icmp_ge (pc := 89) (tgt := 115) F dX8_readFactor_89 (by decide) (fun c89 => ?_) (fun c89 => ?_)
                    · have hje : j = mm := Nat.le_antisymm hj (gI (by omega) (by omega) c89)
                      subst hje
                      refine z_iconst (pc := 115) (v := 1) F dX8_readFactor_115 (by decide) ?_
                      exact z_zret (pc := 116) F hR rfl dX8_readFactor_116 (Nat.le_of_ble_eq_true rfl) (Nat.le_of_ble_eq_true rfl) (by have hw3 := hw.2.2 (by rw [clo_y e6 kc]; try rfl); rw [clo_y e6 kc] at hw hw3; exact lp_end2 hw.1 hw.2.1 hw3 hA7 hL7 (congrArg nI (by simp; omega)) (congrArg nI (by omega)))
                    · have hjl := ngI (by omega) (by omega) c89
                      refine z_aload_n (pc := 92) F dX8_readFactor_92 rfl 0 rfl ?_
                      refine z_bipush (pc := 93) (v := 9) F dX8_readFactor_93 (by decide) ?_
                      refine z_iconst (pc := 95) (v := 0) F dX8_readFactor_95 (by decide) ?_
                      refine z_callVW (pc := 96) (q0 := 0) (ci := 8) (rest := []) F (c_X8_lay l E r S (p3 + 1) (nI (op + (mm - j))) cd7 nm7 nq (a + c3.length + j) 9 0 hn6 hn3 (by first | omega | (simp only [List.length_cons, List.length_nil, List.length_append]; omega))) 2 ww_Model_196 (by decide +kernel) rfl (by constructor <;> (dsimp only; omega)) ⟨Nat.le_of_ble_eq_true rfl, Nat.le_of_ble_eq_true rfl⟩ rfl rfl rfl rfl (Nat.le_of_ble_eq_true rfl) dX8_readFactor_96 (fun v_ w1_ hp => ?_)
                      obtain ⟨rfl, rfl⟩ := hp
                      show Z X (0) (0) (mw E r (mps S (nI (p3 + 1)) (nI ((a + c3.length + j) + 1)) (nI (op + (mm - j))) (upd cd7 (240 * nq + (a + c3.length + j)) (nI 9)) (upd nm7 (240 * nq + (a + c3.length + j)) (nI 0)))) [(0, .ref (r 0)), (1, .int (nI mm)), (2, .int (nI j))] 99 []
                      refine z_aload_n (pc := 99) F dX8_readFactor_99 rfl 0 rfl ?_
                      refine z_dup (pc := 100) F dX8_readFactor_100 rfl ?_
                      refine z_get (pc := 101) (v := .int (nI (op + (mm - j)))) F iX8 0 rfl rfl 37 (by decide) tw_895 rfl dX8_readFactor_101 ?_
                      refine z_iconst (pc := 104) (v := 1) F dX8_readFactor_104 (by decide) ?_
                      refine z_isub (pc := 105) F dX8_readFactor_105 ?_
                      rw [show ((nI (op + (mm - j))) - 1) = nI (op + (mm - (j + 1))) from (by rw [show op + (mm - j) = (op + (mm - (j + 1))) + 1 by omega]; exact nI_pred _)]
                      refine z_put (pc := 106) (ws' := mw E r (mps S (nI (p3 + 1)) (nI ((a + c3.length + j) + 1)) (nI (op + (mm - (j + 1)))) (upd cd7 (240 * nq + (a + c3.length + j)) (nI 9)) (upd nm7 (240 * nq + (a + c3.length + j)) (nI 0)))) F iX8 tyX8 tyX8_ok nmX8 0 rfl rfl 37 (by decide) tw_895 rfl rfl rfl (Nat.le_of_ble_eq_true rfl) dX8_readFactor_106 rfl ?_
                      refine z_iinc (pc := 109) (v := nI (j + 1)) (lv' := [(0, .ref (r 0)), (1, .int (nI mm)), (2, .int (nI (j + 1)))]) F (j := 2) dX8_readFactor_109 rfl (nI_1 _) (by decide) [1, 2, 0] rfl ?_
                      refine z_goto (pc := 112) (tgt := 87) F dX8_readFactor_112 (by decide) ?_
                      exact ih87 (j + 1) _ _ (by omega) (by omega) (agr_lay hA7 (by omega)) (by rw [rep_s, ← List.append_assoc]; have h9 := laid_lay (o := 9) (v := 0) hL7; rw [show a + (c3 ++ List.replicate j ((9, 0) : Nat × Nat)).length = a + c3.length + j from by rw [List.length_append, List.length_replicate]; omega] at h9; exact h9)
                exact L87 _ 0 _ _ (Nat.lt_succ_self _) (Nat.zero_le _) hA3 (by rw [List.replicate_zero, List.append_nil]; exact hL3)
              · skip
                refine z_callVW (pc := 52) (q0 := 0) (ci := 8) (rest := []) F (c_X8_close_n l E r S tp sx p3 (nI (a + c3.length)) (nI ((op + mm) + 1)) cd3 nm3 41 ht (by omega) (by decide) kc) 1 ww_Model_205 (by decide +kernel) rfl (by constructor <;> (dsimp only; omega)) ⟨Nat.le_of_ble_eq_true rfl, Nat.le_of_ble_eq_true rfl⟩ rfl rfl rfl rfl (Nat.le_of_ble_eq_true rfl) dX8_readFactor_52 (fun v_ w1_ hp => ?_)
                obtain ⟨rfl, rfl⟩ := hp
                show Z X (0) (0) (mw E r (mps S (nI p3) (nI (a + c3.length)) (nI ((op + mm) + 1)) cd3 nm3)) [(0, .ref (r 0)), (1, .int (nI mm))] 55 [.int (bI false)]
                rw [show (bI false) = 0 from rfl]
                refine z_if_ne (pc := 55) (tgt := 85) F dX8_readFactor_55 (by decide) (fun h => absurd h (by decide)) (fun _ => ?_)
                refine z_iconst (pc := 58) (v := 0) F dX8_readFactor_58 (by decide) ?_
                exact z_zret (pc := 59) F hR rfl dX8_readFactor_59 (Nat.le_of_ble_eq_true rfl) (Nat.le_of_ble_eq_true rfl) (by have e4 := clo_n e6 kc; subst e4; exact lp_fail hw.1 hw.2.1 hA3)
      · have k8 : sx (p + mm) = 45 := nIe (b := 45) (by have := hsx ((p + mm)); omega) (by decide) c8
        refine z_aload_n (pc := 11) F dX8_readFactor_11 rfl 0 rfl ?_
        rcases Classical.em (op + mm = 12) with ko | ko
        · have hlt2 : p + mm < tp := sx_lt h0 (by omega)
          rw [ko]
          refine z_callVW (pc := 12) (q0 := 0) (ci := 8) (rest := []) F (c_X8_open_n l E r S (p + mm) (nI a) cd nm) 0 ww_Model_199 (by decide +kernel) rfl (by constructor <;> (dsimp only; omega)) ⟨Nat.le_of_ble_eq_true rfl, Nat.le_of_ble_eq_true rfl⟩ rfl rfl rfl rfl (Nat.le_of_ble_eq_true rfl) dX8_readFactor_12 (fun v_ w1_ hp => ?_)
          obtain ⟨rfl, rfl⟩ := hp
          show Z X (0) (0) (mw E r (mps S (nI (p + mm)) (nI a) (nI 12) cd nm)) [(0, .ref (r 0)), (1, .int (nI mm))] 15 [.int (bI false)]
          rw [show (bI false) = 0 from rfl]
          refine z_if_ne (pc := 15) (tgt := 20) F dX8_readFactor_15 (by decide) (fun h => absurd h (by decide)) (fun _ => ?_)
          refine z_iconst (pc := 18) (v := 0) F dX8_readFactor_18 (by decide) ?_
          exact z_zret (pc := 19) F hR rfl dX8_readFactor_19 (Nat.le_of_ble_eq_true rfl) (Nat.le_of_ble_eq_true rfl) (by have e4 := p9_mn hl k8 ko; subst e4; exact lp_fail hw.1 hw.2.1 (agr_rf _ _ _))
        · have hlt2 : p + mm < tp := sx_lt h0 (by omega)
          refine z_callVW (pc := 12) (q0 := 0) (ci := 8) (rest := []) F (c_X8_open_y l E r S (p + mm) (nI a) (op + mm) cd nm (by omega)) 0 ww_Model_199 (by decide +kernel) rfl (by constructor <;> (dsimp only; omega)) ⟨Nat.le_of_ble_eq_true rfl, Nat.le_of_ble_eq_true rfl⟩ rfl rfl rfl rfl (Nat.le_of_ble_eq_true rfl) dX8_readFactor_12 (fun v_ w1_ hp => ?_)
          obtain ⟨rfl, rfl⟩ := hp
          show Z X (0) (0) (mw E r (mps S (nI ((p + mm) + 1)) (nI a) (nI ((op + mm) + 1)) cd nm)) [(0, .ref (r 0)), (1, .int (nI mm))] 15 [.int (bI true)]
          rw [show (bI true) = 1 from rfl]
          refine z_if_ne (pc := 15) (tgt := 20) F dX8_readFactor_15 (by decide) (fun _ => ?_) (fun h => absurd h (by decide))
          refine z_iinc (pc := 20) (v := nI (mm + 1)) (lv' := [(0, .ref (r 0)), (1, .int (nI (mm + 1)))]) F (j := 1) dX8_readFactor_20 rfl (nI_1 _) (by decide) [1, 0] rfl ?_
          refine z_goto (pc := 23) (tgt := 2) F dX8_readFactor_23 (by decide) ?_
          obtain ⟨R5, h5, hw5⟩ := wrO_s hw (p9_my hl k8 ko); exact ih2 k' (mm + 1) R5 (by omega) (by omega) h5 hw5 (by omega) (by omega)
  exact L2 _ n 0 R (Nat.lt_succ_self _) (Nat.le_refl _) hH (wrO_0 9 R) hp hop
set_option maxHeartbeats 4000000 in
set_option maxRecDepth 100000 in
theorem c_X8_readTest_p (l : Launch) (E : zE) (r : Nat → Nat) (S : zS) (nq : Nat) (tp : Nat) (sx : Nat → Nat) (n : Nat) (p : Nat) (op : Nat) (a : Nat) (cd : Nat → Int32) (nm : Nat → Int32) (R : zRs) (ht : tpo S tp sx) (hn6 : nq < 6) (hn3 : zi S 3 = nI nq) (ihI : ∀ m : Nat, m < n → pC l E r S nq tp yX8_readOr cX8_readOr 1 (fun p op R => ps sx m 0 p op = some R) m) (ihX : ∀ m : Nat, m < n → pC l E r S nq tp yX8_readX cX8_readX 2 (fun p op R => ps sx m 5 p op = some R) m) (hH : ps sx n 4 p op = some R) (hp : p ≤ tp) (ha : a ≤ 2 * p) (hop : op ≤ 12) : Ct l yX8_readTest cX8_readTest 3 (some .boolean) (prm n) E (mw E r (mps S (nI p) (nI a) (nI op) cd nm)) [.ref (r 0)] (fun v_ w_ => ∃ a' : Int32, ∃ op' : Int32, ∃ cd' : Nat → Int32, ∃ nm' : Nat → Int32, v_ = some (.int (bI R.1)) ∧ w_ = mw E r (mps S (nI R.2.1) a' op' cd' nm') ∧ (agr (240 * nq + a) cd nm cd' nm') ∧ (R.1 = true → a' = nI (a + R.2.2.length) ∧ op' = nI op ∧ laid cd' nm' (240 * nq + a) R.2.2)) := by
  refine Ct.of (by decide) (Nat.le_of_ble_eq_true rfl) (lv := [(0, .ref (r 0))]) rfl ?_
  intro X F hR
  have F : zF X l (prm n) E cX8_readTest 3 "LiveQueriesModel" := F
  have htp := ht.2.1
  have hsx := ht.2.2.2.2
  have h0 := ht.2.2.2.1
  refine z_iconst (pc := 0) (v := 0) F dX8_readTest_0 (by decide) ?_
  refine z_istore_n (pc := 1) (lv' := [(0, .ref (r 0)), (1, .int 0)]) F dX8_readTest_1 rfl (by decide) [1, 0] rfl ?_
  have L2 : ∀ (N : Nat) (k : Nat) (mm : Nat) (R4 : zRs), k < N → (k ≤ n) → (ps sx k 4 (p + mm) (op + mm) = some R4) → (wrO 21 mm R R4) → (p + mm ≤ tp) → (op + mm ≤ 12) → Z X (0) (0) (mw E r (mps S (nI (p + mm)) (nI a) (nI (op + mm)) cd nm)) [(0, .ref (r 0)), (1, .int (nI mm))] 2 [] := by
    intro N
    induction N with
    | zero => intro k mm R4 hN; exact absurd hN (Nat.not_lt_zero _)
    | succ N ih2 =>
      intro k mm R4 hN hk hl hw hp2 ho2
      obtain ⟨k', rfl⟩ : ∃ k', k = k' + 1 := by cases k with | zero => cases hl | succ k' => exact ⟨k', rfl⟩
      refine z_aload_n (pc := 2) F dX8_readTest_2 rfl 0 rfl ?_
      refine z_callVW (pc := 3) (q0 := 0) (ci := 8) (rest := []) F (c_X8_see l E r S tp sx (p + mm) (nI a) (nI (op + mm)) cd nm ht hp2) 0 ww_Model_180 (by decide +kernel) rfl (by constructor <;> (dsimp only; omega)) ⟨Nat.le_of_ble_eq_true rfl, Nat.le_of_ble_eq_true rfl⟩ rfl rfl rfl rfl (Nat.le_of_ble_eq_true rfl) dX8_readTest_3 (fun v_ w1_ hp => ?_)
      obtain ⟨rfl, rfl⟩ := hp
      show Z X (0) (0) (mw E r (mps S (nI (p + mm)) (nI a) (nI (op + mm)) cd nm)) [(0, .ref (r 0)), (1, .int (nI mm))] 6 [.int (nI (sx (p + mm)))]
      refine z_bipush (pc := 6) (v := 33) F dX8_readTest_6 (by decide) ?_
      refine z_icmp_ne (pc := 8) (tgt := 26) F dX8_readTest_8 (by decide) (fun c8 => ?_) (fun c8 => ?_)
      · have k8 : ¬ sx (p + mm) = 33 := fun h => c8 (by rw [h]; rfl)
        refine z_aload_n (pc := 26) F dX8_readTest_26 rfl 0 rfl ?_
        refine z_callVW (pc := 27) (q0 := 0) (ci := 8) (rest := []) F (c_X8_see l E r S tp sx (p + mm) (nI a) (nI (op + mm)) cd nm ht hp2) 0 ww_Model_180 (by decide +kernel) rfl (by constructor <;> (dsimp only; omega)) ⟨Nat.le_of_ble_eq_true rfl, Nat.le_of_ble_eq_true rfl⟩ rfl rfl rfl rfl (Nat.le_of_ble_eq_true rfl) dX8_readTest_27 (fun v_ w1_ hp => ?_)
        obtain ⟨rfl, rfl⟩ := hp
        show Z X (0) (0) (mw E r (mps S (nI (p + mm)) (nI a) (nI (op + mm)) cd nm)) [(0, .ref (r 0)), (1, .int (nI mm))] 30 [.int (nI (sx (p + mm)))]
        refine z_bipush (pc := 30) (v := 123) F dX8_readTest_30 (by decide) ?_
        refine z_icmp_ne (pc := 32) (tgt := 60) F dX8_readTest_32 (by decide) (fun c32 => ?_) (fun c32 => ?_)
        · have k32 : ¬ sx (p + mm) = 123 := fun h => c32 (by rw [h]; rfl)
          refine z_aload_n (pc := 60) F dX8_readTest_60 rfl 0 rfl ?_
          obtain ⟨p3, c3, hh3⟩ := pthen_inv (p4_c hl k8 k32); rcases hh3 with ⟨h3, e6⟩ | ⟨h3, e6⟩
          · skip
            refine z_callVW (pc := 61) (q0 := 0) (ci := 8) (rest := []) F (pC_n (ihX k' (by omega)) h3 (by omega) (by omega) (by omega)) 0 ww_Model_202 (by decide +kernel) rfl (by constructor <;> (dsimp only; omega)) ⟨Nat.le_of_ble_eq_true rfl, Nat.le_of_ble_eq_true rfl⟩ rfl rfl rfl rfl (Nat.le_of_ble_eq_true rfl) dX8_readTest_61 (fun v_ w1_ hp => ?_)
            obtain ⟨a3, op3, cd3, nm3, rfl, rfl, hA3⟩ := hp
            show Z X (0) (0) (mw E r (mps S (nI p3) a3 op3 cd3 nm3)) [(0, .ref (r 0)), (1, .int (nI mm))] 64 [.int 0]
            refine z_if_ne (pc := 64) (tgt := 69) F dX8_readTest_64 (by decide) (fun h => absurd h (by decide)) (fun _ => ?_)
            refine z_iconst (pc := 67) (v := 0) F dX8_readTest_67 (by decide) ?_
            exact z_zret (pc := 68) F hR rfl dX8_readTest_68 (Nat.le_of_ble_eq_true rfl) (Nat.le_of_ble_eq_true rfl) (by subst e6; exact lp_fail hw.1 hw.2.1 hA3)
          · have b3 : (p + mm) ≤ p3 ∧ ((p + mm) ≤ tp → p3 ≤ tp) ∧ c3.length ≤ 2 * (p3 - (p + mm)) := by simpa [bnd] using ps_b h0 _ _ _ _ _ (by decide) h3
            refine z_callVW (pc := 61) (q0 := 0) (ci := 8) (rest := []) F (pC_y (ihX k' (by omega)) h3 (by omega) (by omega) (by omega)) 0 ww_Model_202 (by decide +kernel) rfl (by constructor <;> (dsimp only; omega)) ⟨Nat.le_of_ble_eq_true rfl, Nat.le_of_ble_eq_true rfl⟩ rfl rfl rfl rfl (Nat.le_of_ble_eq_true rfl) dX8_readTest_61 (fun v_ w1_ hp => ?_)
            obtain ⟨cd3, nm3, rfl, rfl, hA3, hL3⟩ := hp
            show Z X (0) (0) (mw E r (mps S (nI p3) (nI (a + c3.length)) (nI (op + mm)) cd3 nm3)) [(0, .ref (r 0)), (1, .int (nI mm))] 64 [.int 1]
            refine z_if_ne (pc := 64) (tgt := 69) F dX8_readTest_64 (by decide) (fun _ => ?_) (fun h => absurd h (by decide))
            refine z_aload_n (pc := 69) F dX8_readTest_69 rfl 0 rfl ?_
            refine z_callVW (pc := 70) (q0 := 0) (ci := 8) (rest := []) F (c_X8_see l E r S tp sx p3 (nI (a + c3.length)) (nI (op + mm)) cd3 nm3 ht (by omega)) 0 ww_Model_180 (by decide +kernel) rfl (by constructor <;> (dsimp only; omega)) ⟨Nat.le_of_ble_eq_true rfl, Nat.le_of_ble_eq_true rfl⟩ rfl rfl rfl rfl (Nat.le_of_ble_eq_true rfl) dX8_readTest_70 (fun v_ w1_ hp => ?_)
            obtain ⟨rfl, rfl⟩ := hp
            show Z X (0) (0) (mw E r (mps S (nI p3) (nI (a + c3.length)) (nI (op + mm)) cd3 nm3)) [(0, .ref (r 0)), (1, .int (nI mm))] 73 [.int (nI (sx p3))]
            refine z_istore_n (pc := 73) (lv' := [(0, .ref (r 0)), (1, .int (nI mm)), (2, .int (nI (sx p3)))]) F dX8_readTest_73 rfl (by decide) [1, 2, 0] rfl ?_
            refine z_iload_n (pc := 74) F dX8_readTest_74 rfl 2 rfl ?_
            refine z_bipush (pc := 75) (v := 61) F dX8_readTest_75 (by decide) ?_
            refine z_icmp_eq (pc := 77) (tgt := 100) F dX8_readTest_77 (by decide) (fun c77 => ?_) (fun c77 => ?_)
            · have k77 : sx p3 = 61 := nIe (b := 61) (by have := hsx (p3); omega) (by decide) c77
              refine z_aload_n (pc := 100) F dX8_readTest_100 rfl 0 rfl ?_
              refine z_dup (pc := 101) F dX8_readTest_101 rfl ?_
              refine z_get (pc := 102) (v := .int (nI p3)) F iX8 0 rfl rfl 35 (by decide) tw_893 rfl dX8_readTest_102 ?_
              refine z_iconst (pc := 105) (v := 1) F dX8_readTest_105 (by decide) ?_
              refine z_iadd (pc := 106) F dX8_readTest_106 ?_
              rw [show ((nI p3) + 1) = nI (p3 + 1) from (nI_1 _)]
              refine z_put (pc := 107) (ws' := mw E r (mps S (nI (p3 + 1)) (nI (a + c3.length)) (nI (op + mm)) cd3 nm3)) F iX8 tyX8 tyX8_ok nmX8 0 rfl rfl 35 (by decide) tw_893 rfl rfl rfl (Nat.le_of_ble_eq_true rfl) dX8_readTest_107 rfl ?_
              refine z_aload_n (pc := 110) F dX8_readTest_110 rfl 0 rfl ?_
              rw [if_pos (by omega)] at e6; obtain ⟨p5, c5, hh5⟩ := pthen_inv e6; rcases hh5 with ⟨h5, e8⟩ | ⟨h5, e8⟩
              · have hlt4 : p3 < tp := sx_lt h0 (by omega)
                refine z_callVW (pc := 111) (q0 := 0) (ci := 8) (rest := []) F (pC_n (ihX k' (by omega)) h5 (by omega) (by omega) (by omega)) 0 ww_Model_202 (by decide +kernel) rfl (by constructor <;> (dsimp only; omega)) ⟨Nat.le_of_ble_eq_true rfl, Nat.le_of_ble_eq_true rfl⟩ rfl rfl rfl rfl (Nat.le_of_ble_eq_true rfl) dX8_readTest_111 (fun v_ w1_ hp => ?_)
                obtain ⟨a5, op5, cd5, nm5, rfl, rfl, hA5⟩ := hp
                show Z X (0) (0) (mw E r (mps S (nI p5) a5 op5 cd5 nm5)) [(0, .ref (r 0)), (1, .int (nI mm)), (2, .int (nI (sx p3)))] 114 [.int 0]
                refine z_if_ne (pc := 114) (tgt := 119) F dX8_readTest_114 (by decide) (fun h => absurd h (by decide)) (fun _ => ?_)
                refine z_iconst (pc := 117) (v := 0) F dX8_readTest_117 (by decide) ?_
                exact z_zret (pc := 118) F hR rfl dX8_readTest_118 (Nat.le_of_ble_eq_true rfl) (Nat.le_of_ble_eq_true rfl) (by subst e8; exact lp_fail hw.1 hw.2.1 (agr_tr hA3 (by omega) hA5))
              · have hlt4 : p3 < tp := sx_lt h0 (by omega)
                have b5 : (p3 + 1) ≤ p5 ∧ ((p3 + 1) ≤ tp → p5 ≤ tp) ∧ c5.length ≤ 2 * (p5 - (p3 + 1)) := by simpa [bnd] using ps_b h0 _ _ _ _ _ (by decide) h5
                refine z_callVW (pc := 111) (q0 := 0) (ci := 8) (rest := []) F (pC_y (ihX k' (by omega)) h5 (by omega) (by omega) (by omega)) 0 ww_Model_202 (by decide +kernel) rfl (by constructor <;> (dsimp only; omega)) ⟨Nat.le_of_ble_eq_true rfl, Nat.le_of_ble_eq_true rfl⟩ rfl rfl rfl rfl (Nat.le_of_ble_eq_true rfl) dX8_readTest_111 (fun v_ w1_ hp => ?_)
                obtain ⟨cd5, nm5, rfl, rfl, hA5, hL5⟩ := hp
                show Z X (0) (0) (mw E r (mps S (nI p5) (nI ((a + c3.length) + c5.length)) (nI (op + mm)) cd5 nm5)) [(0, .ref (r 0)), (1, .int (nI mm)), (2, .int (nI (sx p3)))] 114 [.int 1]
                refine z_if_ne (pc := 114) (tgt := 119) F dX8_readTest_114 (by decide) (fun _ => ?_) (fun h => absurd h (by decide))
                have e9 : R4 = (true, p5, c3 ++ (c5 ++ [(15, 0)])) := by rw [show cmpO (sx p3) = 15 by simp [cmpO, k77]] at e8; cases e8; rfl
                refine z_aload_n (pc := 119) F dX8_readTest_119 rfl 0 rfl ?_
                refine z_iload_n (pc := 120) F dX8_readTest_120 rfl 2 rfl ?_
                refine z_bipush (pc := 121) (v := 61) F dX8_readTest_121 (by decide) ?_
                refine z_icmp_ne (pc := 123) (tgt := 131) F dX8_readTest_123 (by decide) (fun c123 => absurd c123 (fun h => h (by rw [k77]; rfl))) (fun c123 => ?_)
                refine z_bipush (pc := 126) (v := 15) F dX8_readTest_126 (by decide) ?_
                refine z_goto (pc := 128) (tgt := 155) F dX8_readTest_128 (by decide) ?_
                refine z_iconst (pc := 155) (v := 0) F dX8_readTest_155 (by decide) ?_
                refine z_callVW (pc := 156) (q0 := 0) (ci := 8) (rest := []) F (c_X8_lay l E r S p5 (nI (op + mm)) cd5 nm5 nq ((a + c3.length) + c5.length) 15 0 hn6 hn3 (by omega)) 2 ww_Model_196 (by decide +kernel) rfl (by constructor <;> (dsimp only; omega)) ⟨Nat.le_of_ble_eq_true rfl, Nat.le_of_ble_eq_true rfl⟩ rfl rfl rfl rfl (Nat.le_of_ble_eq_true rfl) dX8_readTest_156 (fun v_ w1_ hp => ?_)
                obtain ⟨rfl, rfl⟩ := hp
                show Z X (0) (0) (mw E r (mps S (nI p5) (nI (((a + c3.length) + c5.length) + 1)) (nI (op + mm)) (upd cd5 (240 * nq + ((a + c3.length) + c5.length)) (nI 15)) (upd nm5 (240 * nq + ((a + c3.length) + c5.length)) (nI 0)))) [(0, .ref (r 0)), (1, .int (nI mm)), (2, .int (nI (sx p3)))] 159 []
                obtain ⟨C5, hC5⟩ : ∃ C5 : List (Nat × Nat), C5 = c3 ++ (c5 ++ [(15, 0)]) := ⟨_, rfl⟩
                have hCl : C5.length = c3.length + c5.length + 1 := by rw [hC5]; simp; omega
                have hAC := agr_lay (k := 240 * nq + (a + c3.length + c5.length)) (x := nI 15) (y := nI 0) (agr_tr hA3 (by omega) hA5) (by omega)
                have hLC := laid_app hL3 (agr_lay (k := 240 * nq + (a + c3.length + c5.length)) (x := nI 15) (y := nI 0) hA5 (by omega)) (laid_lay hL5)
                rw [← hC5] at hLC e9
                rw [show a + c3.length + c5.length + 1 = a + C5.length by omega]
                refine z_iconst (pc := 159) (v := 0) F dX8_readTest_159 (by decide) ?_
                refine z_istore_n (pc := 160) (lv' := [(0, .ref (r 0)), (1, .int (nI mm)), (2, .int 0)]) F dX8_readTest_160 rfl (by decide) [1, 2, 0] rfl ?_
                have L161 : ∀ (N : Nat) (j : Nat) (cd7 : Nat → Int32) (nm7 : Nat → Int32), (mm - j) < N → (j ≤ mm) → (agr (240 * nq + a) cd nm cd7 nm7) → (laid cd7 nm7 (240 * nq + a) (C5 ++ List.replicate j (21, 0))) → Z X (0) (0) (mw E r (mps S (nI p5) (nI (a + C5.length + j)) (nI (op + (mm - j))) cd7 nm7)) [(0, .ref (r 0)), (1, .int (nI mm)), (2, .int (nI j))] 161 [] := by
                  intro N
                  induction N with
                  | zero => intro j cd7 nm7 hN; exact absurd hN (Nat.not_lt_zero _)
                  | succ N ih161 =>
                    intro j cd7 nm7 hN hj hA7 hL7
                    refine z_iload_n (pc := 161) F dX8_readTest_161 rfl 2 rfl ?_
                    refine z_iload_n (pc := 162) F dX8_readTest_162 rfl 1 rfl ?_
                    refine z_icmp_ge (pc := 163) (tgt := 189) F dX8_readTest_163 (by decide) (fun c163 => ?_) (fun c163 => ?_)
                    · have hje : j = mm := Nat.le_antisymm hj (gI (by omega) (by omega) c163)
                      subst hje
                      refine z_iconst (pc := 189) (v := 1) F dX8_readTest_189 (by decide) ?_
                      exact z_zret (pc := 190) F hR rfl dX8_readTest_190 (Nat.le_of_ble_eq_true rfl) (Nat.le_of_ble_eq_true rfl) (by have hw3 := hw.2.2 (by rw [e9]; try rfl); rw [e9] at hw hw3; exact lp_end2 hw.1 hw.2.1 hw3 hA7 hL7 (congrArg nI (by simp; omega)) (congrArg nI (by omega)))
                    · have hjl := ngI (by omega) (by omega) c163
                      refine z_aload_n (pc := 166) F dX8_readTest_166 rfl 0 rfl ?_
                      refine z_bipush (pc := 167) (v := 21) F dX8_readTest_167 (by decide) ?_
                      refine z_iconst (pc := 169) (v := 0) F dX8_readTest_169 (by decide) ?_
                      refine z_callVW (pc := 170) (q0 := 0) (ci := 8) (rest := []) F (c_X8_lay l E r S p5 (nI (op + (mm - j))) cd7 nm7 nq (a + C5.length + j) 21 0 hn6 hn3 (by first | omega | (simp only [List.length_cons, List.length_nil, List.length_append]; omega))) 2 ww_Model_196 (by decide +kernel) rfl (by constructor <;> (dsimp only; omega)) ⟨Nat.le_of_ble_eq_true rfl, Nat.le_of_ble_eq_true rfl⟩ rfl rfl rfl rfl (Nat.le_of_ble_eq_true rfl) dX8_readTest_170 (fun v_ w1_ hp => ?_)
                      obtain ⟨rfl, rfl⟩ := hp
                      show Z X (0) (0) (mw E r (mps S (nI p5) (nI ((a + C5.length + j) + 1)) (nI (op + (mm - j))) (upd cd7 (240 * nq + (a + C5.length + j)) (nI 21)) (upd nm7 (240 * nq + (a + C5.length + j)) (nI 0)))) [(0, .ref (r 0)), (1, .int (nI mm)), (2, .int (nI j))] 173 []
                      refine z_aload_n (pc := 173) F dX8_readTest_173 rfl 0 rfl ?_
                      refine z_dup (pc := 174) F dX8_readTest_174 rfl ?_
                      refine z_get (pc := 175) (v := .int (nI (op + (mm - j)))) F iX8 0 rfl rfl 37 (by decide) tw_895 rfl dX8_readTest_175 ?_
                      refine z_iconst (pc := 178) (v := 1) F dX8_readTest_178 (by decide) ?_
                      refine z_isub (pc := 179) F dX8_readTest_179 ?_
                      rw [show ((nI (op + (mm - j))) - 1) = nI (op + (mm - (j + 1))) from (by rw [show op + (mm - j) = (op + (mm - (j + 1))) + 1 by omega]; exact nI_pred _)]
                      refine z_put (pc := 180) (ws' := mw E r (mps S (nI p5) (nI ((a + C5.length + j) + 1)) (nI (op + (mm - (j + 1)))) (upd cd7 (240 * nq + (a + C5.length + j)) (nI 21)) (upd nm7 (240 * nq + (a + C5.length + j)) (nI 0)))) F iX8 tyX8 tyX8_ok nmX8 0 rfl rfl 37 (by decide) tw_895 rfl rfl rfl (Nat.le_of_ble_eq_true rfl) dX8_readTest_180 rfl ?_
                      refine z_iinc (pc := 183) (v := nI (j + 1)) (lv' := [(0, .ref (r 0)), (1, .int (nI mm)), (2, .int (nI (j + 1)))]) F (j := 2) dX8_readTest_183 rfl (nI_1 _) (by decide) [1, 2, 0] rfl ?_
                      refine z_goto (pc := 186) (tgt := 161) F dX8_readTest_186 (by decide) ?_
                      exact ih161 (j + 1) _ _ (by omega) (by omega) (agr_lay hA7 (by omega)) (by rw [rep_s, ← List.append_assoc]; have h9 := laid_lay (o := 21) (v := 0) hL7; rw [show a + (C5 ++ List.replicate j ((21, 0) : Nat × Nat)).length = a + C5.length + j from by rw [List.length_append, List.length_replicate]; omega] at h9; exact h9)
                exact L161 _ 0 _ _ (Nat.lt_succ_self _) (Nat.zero_le _) hAC (by rw [List.replicate_zero, List.append_nil]; exact hLC)
            · have k77 : ¬ sx p3 = 61 := fun h => c77 (by rw [h]; rfl)
              refine z_iload_n (pc := 80) F dX8_readTest_80 rfl 2 rfl ?_
              refine z_bipush (pc := 81) (v := 35) F dX8_readTest_81 (by decide) ?_
              refine z_icmp_eq (pc := 83) (tgt := 100) F dX8_readTest_83 (by decide) (fun c83 => ?_) (fun c83 => ?_)
              · have k83 : sx p3 = 35 := nIe (b := 35) (by have := hsx (p3); omega) (by decide) c83
                refine z_aload_n (pc := 100) F dX8_readTest_100 rfl 0 rfl ?_
                refine z_dup (pc := 101) F dX8_readTest_101 rfl ?_
                refine z_get (pc := 102) (v := .int (nI p3)) F iX8 0 rfl rfl 35 (by decide) tw_893 rfl dX8_readTest_102 ?_
                refine z_iconst (pc := 105) (v := 1) F dX8_readTest_105 (by decide) ?_
                refine z_iadd (pc := 106) F dX8_readTest_106 ?_
                rw [show ((nI p3) + 1) = nI (p3 + 1) from (nI_1 _)]
                refine z_put (pc := 107) (ws' := mw E r (mps S (nI (p3 + 1)) (nI (a + c3.length)) (nI (op + mm)) cd3 nm3)) F iX8 tyX8 tyX8_ok nmX8 0 rfl rfl 35 (by decide) tw_893 rfl rfl rfl (Nat.le_of_ble_eq_true rfl) dX8_readTest_107 rfl ?_
                refine z_aload_n (pc := 110) F dX8_readTest_110 rfl 0 rfl ?_
                rw [if_pos (by omega)] at e6; obtain ⟨p5, c5, hh5⟩ := pthen_inv e6; rcases hh5 with ⟨h5, e8⟩ | ⟨h5, e8⟩
                · have hlt4 : p3 < tp := sx_lt h0 (by omega)
                  refine z_callVW (pc := 111) (q0 := 0) (ci := 8) (rest := []) F (pC_n (ihX k' (by omega)) h5 (by omega) (by omega) (by omega)) 0 ww_Model_202 (by decide +kernel) rfl (by constructor <;> (dsimp only; omega)) ⟨Nat.le_of_ble_eq_true rfl, Nat.le_of_ble_eq_true rfl⟩ rfl rfl rfl rfl (Nat.le_of_ble_eq_true rfl) dX8_readTest_111 (fun v_ w1_ hp => ?_)
                  obtain ⟨a5, op5, cd5, nm5, rfl, rfl, hA5⟩ := hp
                  show Z X (0) (0) (mw E r (mps S (nI p5) a5 op5 cd5 nm5)) [(0, .ref (r 0)), (1, .int (nI mm)), (2, .int (nI (sx p3)))] 114 [.int 0]
                  refine z_if_ne (pc := 114) (tgt := 119) F dX8_readTest_114 (by decide) (fun h => absurd h (by decide)) (fun _ => ?_)
                  refine z_iconst (pc := 117) (v := 0) F dX8_readTest_117 (by decide) ?_
                  exact z_zret (pc := 118) F hR rfl dX8_readTest_118 (Nat.le_of_ble_eq_true rfl) (Nat.le_of_ble_eq_true rfl) (by subst e8; exact lp_fail hw.1 hw.2.1 (agr_tr hA3 (by omega) hA5))
                · have hlt4 : p3 < tp := sx_lt h0 (by omega)
                  have b5 : (p3 + 1) ≤ p5 ∧ ((p3 + 1) ≤ tp → p5 ≤ tp) ∧ c5.length ≤ 2 * (p5 - (p3 + 1)) := by simpa [bnd] using ps_b h0 _ _ _ _ _ (by decide) h5
                  refine z_callVW (pc := 111) (q0 := 0) (ci := 8) (rest := []) F (pC_y (ihX k' (by omega)) h5 (by omega) (by omega) (by omega)) 0 ww_Model_202 (by decide +kernel) rfl (by constructor <;> (dsimp only; omega)) ⟨Nat.le_of_ble_eq_true rfl, Nat.le_of_ble_eq_true rfl⟩ rfl rfl rfl rfl (Nat.le_of_ble_eq_true rfl) dX8_readTest_111 (fun v_ w1_ hp => ?_)
                  obtain ⟨cd5, nm5, rfl, rfl, hA5, hL5⟩ := hp
                  show Z X (0) (0) (mw E r (mps S (nI p5) (nI ((a + c3.length) + c5.length)) (nI (op + mm)) cd5 nm5)) [(0, .ref (r 0)), (1, .int (nI mm)), (2, .int (nI (sx p3)))] 114 [.int 1]
                  refine z_if_ne (pc := 114) (tgt := 119) F dX8_readTest_114 (by decide) (fun _ => ?_) (fun h => absurd h (by decide))
                  have e9 : R4 = (true, p5, c3 ++ (c5 ++ [(16, 0)])) := by rw [show cmpO (sx p3) = 16 by simp [cmpO, k83]] at e8; cases e8; rfl
                  refine z_aload_n (pc := 119) F dX8_readTest_119 rfl 0 rfl ?_
                  refine z_iload_n (pc := 120) F dX8_readTest_120 rfl 2 rfl ?_
                  refine z_bipush (pc := 121) (v := 61) F dX8_readTest_121 (by decide) ?_
                  refine z_icmp_ne (pc := 123) (tgt := 131) F dX8_readTest_123 (by decide) (fun c123 => ?_) (fun c123 => absurd c123 (fun h => absurd (nIe (b := 61) (by have := hsx p3; omega) (by decide) h) (by omega)))
                  refine z_iload_n (pc := 131) F dX8_readTest_131 rfl 2 rfl ?_
                  refine z_bipush (pc := 132) (v := 35) F dX8_readTest_132 (by decide) ?_
                  refine z_icmp_ne (pc := 134) (tgt := 142) F dX8_readTest_134 (by decide) (fun c134 => absurd c134 (fun h => h (by rw [k83]; rfl))) (fun c134 => ?_)
                  refine z_bipush (pc := 137) (v := 16) F dX8_readTest_137 (by decide) ?_
                  refine z_goto (pc := 139) (tgt := 155) F dX8_readTest_139 (by decide) ?_
                  refine z_iconst (pc := 155) (v := 0) F dX8_readTest_155 (by decide) ?_
                  refine z_callVW (pc := 156) (q0 := 0) (ci := 8) (rest := []) F (c_X8_lay l E r S p5 (nI (op + mm)) cd5 nm5 nq ((a + c3.length) + c5.length) 16 0 hn6 hn3 (by omega)) 2 ww_Model_196 (by decide +kernel) rfl (by constructor <;> (dsimp only; omega)) ⟨Nat.le_of_ble_eq_true rfl, Nat.le_of_ble_eq_true rfl⟩ rfl rfl rfl rfl (Nat.le_of_ble_eq_true rfl) dX8_readTest_156 (fun v_ w1_ hp => ?_)
                  obtain ⟨rfl, rfl⟩ := hp
                  show Z X (0) (0) (mw E r (mps S (nI p5) (nI (((a + c3.length) + c5.length) + 1)) (nI (op + mm)) (upd cd5 (240 * nq + ((a + c3.length) + c5.length)) (nI 16)) (upd nm5 (240 * nq + ((a + c3.length) + c5.length)) (nI 0)))) [(0, .ref (r 0)), (1, .int (nI mm)), (2, .int (nI (sx p3)))] 159 []
                  obtain ⟨C5, hC5⟩ : ∃ C5 : List (Nat × Nat), C5 = c3 ++ (c5 ++ [(16, 0)]) := ⟨_, rfl⟩
                  have hCl : C5.length = c3.length + c5.length + 1 := by rw [hC5]; simp; omega
                  have hAC := agr_lay (k := 240 * nq + (a + c3.length + c5.length)) (x := nI 16) (y := nI 0) (agr_tr hA3 (by omega) hA5) (by omega)
                  have hLC := laid_app hL3 (agr_lay (k := 240 * nq + (a + c3.length + c5.length)) (x := nI 16) (y := nI 0) hA5 (by omega)) (laid_lay hL5)
                  rw [← hC5] at hLC e9
                  rw [show a + c3.length + c5.length + 1 = a + C5.length by omega]
                  refine z_iconst (pc := 159) (v := 0) F dX8_readTest_159 (by decide) ?_
                  refine z_istore_n (pc := 160) (lv' := [(0, .ref (r 0)), (1, .int (nI mm)), (2, .int 0)]) F dX8_readTest_160 rfl (by decide) [1, 2, 0] rfl ?_
                  have L161 : ∀ (N : Nat) (j : Nat) (cd7 : Nat → Int32) (nm7 : Nat → Int32), (mm - j) < N → (j ≤ mm) → (agr (240 * nq + a) cd nm cd7 nm7) → (laid cd7 nm7 (240 * nq + a) (C5 ++ List.replicate j (21, 0))) → Z X (0) (0) (mw E r (mps S (nI p5) (nI (a + C5.length + j)) (nI (op + (mm - j))) cd7 nm7)) [(0, .ref (r 0)), (1, .int (nI mm)), (2, .int (nI j))] 161 [] := by
                    intro N
                    induction N with
                    | zero => intro j cd7 nm7 hN; exact absurd hN (Nat.not_lt_zero _)
                    | succ N ih161 =>
                      intro j cd7 nm7 hN hj hA7 hL7
                      refine z_iload_n (pc := 161) F dX8_readTest_161 rfl 2 rfl ?_
                      refine z_iload_n (pc := 162) F dX8_readTest_162 rfl 1 rfl ?_
                      refine z_icmp_ge (pc := 163) (tgt := 189) F dX8_readTest_163 (by decide) (fun c163 => ?_) (fun c163 => ?_)
                      · have hje : j = mm := Nat.le_antisymm hj (gI (by omega) (by omega) c163)
                        subst hje
                        refine z_iconst (pc := 189) (v := 1) F dX8_readTest_189 (by decide) ?_
                        exact z_zret (pc := 190) F hR rfl dX8_readTest_190 (Nat.le_of_ble_eq_true rfl) (Nat.le_of_ble_eq_true rfl) (by have hw3 := hw.2.2 (by rw [e9]; try rfl); rw [e9] at hw hw3; exact lp_end2 hw.1 hw.2.1 hw3 hA7 hL7 (congrArg nI (by simp; omega)) (congrArg nI (by omega)))
                      · have hjl := ngI (by omega) (by omega) c163
                        refine z_aload_n (pc := 166) F dX8_readTest_166 rfl 0 rfl ?_
                        refine z_bipush (pc := 167) (v := 21) F dX8_readTest_167 (by decide) ?_
                        refine z_iconst (pc := 169) (v := 0) F dX8_readTest_169 (by decide) ?_
                        refine z_callVW (pc := 170) (q0 := 0) (ci := 8) (rest := []) F (c_X8_lay l E r S p5 (nI (op + (mm - j))) cd7 nm7 nq (a + C5.length + j) 21 0 hn6 hn3 (by first | omega | (simp only [List.length_cons, List.length_nil, List.length_append]; omega))) 2 ww_Model_196 (by decide +kernel) rfl (by constructor <;> (dsimp only; omega)) ⟨Nat.le_of_ble_eq_true rfl, Nat.le_of_ble_eq_true rfl⟩ rfl rfl rfl rfl (Nat.le_of_ble_eq_true rfl) dX8_readTest_170 (fun v_ w1_ hp => ?_)
                        obtain ⟨rfl, rfl⟩ := hp
                        show Z X (0) (0) (mw E r (mps S (nI p5) (nI ((a + C5.length + j) + 1)) (nI (op + (mm - j))) (upd cd7 (240 * nq + (a + C5.length + j)) (nI 21)) (upd nm7 (240 * nq + (a + C5.length + j)) (nI 0)))) [(0, .ref (r 0)), (1, .int (nI mm)), (2, .int (nI j))] 173 []
                        refine z_aload_n (pc := 173) F dX8_readTest_173 rfl 0 rfl ?_
                        refine z_dup (pc := 174) F dX8_readTest_174 rfl ?_
                        refine z_get (pc := 175) (v := .int (nI (op + (mm - j)))) F iX8 0 rfl rfl 37 (by decide) tw_895 rfl dX8_readTest_175 ?_
                        refine z_iconst (pc := 178) (v := 1) F dX8_readTest_178 (by decide) ?_
                        refine z_isub (pc := 179) F dX8_readTest_179 ?_
                        rw [show ((nI (op + (mm - j))) - 1) = nI (op + (mm - (j + 1))) from (by rw [show op + (mm - j) = (op + (mm - (j + 1))) + 1 by omega]; exact nI_pred _)]
                        refine z_put (pc := 180) (ws' := mw E r (mps S (nI p5) (nI ((a + C5.length + j) + 1)) (nI (op + (mm - (j + 1)))) (upd cd7 (240 * nq + (a + C5.length + j)) (nI 21)) (upd nm7 (240 * nq + (a + C5.length + j)) (nI 0)))) F iX8 tyX8 tyX8_ok nmX8 0 rfl rfl 37 (by decide) tw_895 rfl rfl rfl (Nat.le_of_ble_eq_true rfl) dX8_readTest_180 rfl ?_
                        refine z_iinc (pc := 183) (v := nI (j + 1)) (lv' := [(0, .ref (r 0)), (1, .int (nI mm)), (2, .int (nI (j + 1)))]) F (j := 2) dX8_readTest_183 rfl (nI_1 _) (by decide) [1, 2, 0] rfl ?_
                        refine z_goto (pc := 186) (tgt := 161) F dX8_readTest_186 (by decide) ?_
                        exact ih161 (j + 1) _ _ (by omega) (by omega) (agr_lay hA7 (by omega)) (by rw [rep_s, ← List.append_assoc]; have h9 := laid_lay (o := 21) (v := 0) hL7; rw [show a + (C5 ++ List.replicate j ((21, 0) : Nat × Nat)).length = a + C5.length + j from by rw [List.length_append, List.length_replicate]; omega] at h9; exact h9)
                  exact L161 _ 0 _ _ (Nat.lt_succ_self _) (Nat.zero_le _) hAC (by rw [List.replicate_zero, List.append_nil]; exact hLC)
              · have k83 : ¬ sx p3 = 35 := fun h => c83 (by rw [h]; rfl)
                refine z_iload_n (pc := 86) F dX8_readTest_86 rfl 2 rfl ?_
                refine z_bipush (pc := 87) (v := 60) F dX8_readTest_87 (by decide) ?_
                refine z_icmp_eq (pc := 89) (tgt := 100) F dX8_readTest_89 (by decide) (fun c89 => ?_) (fun c89 => ?_)
                · have k89 : sx p3 = 60 := nIe (b := 60) (by have := hsx (p3); omega) (by decide) c89
                  refine z_aload_n (pc := 100) F dX8_readTest_100 rfl 0 rfl ?_
                  refine z_dup (pc := 101) F dX8_readTest_101 rfl ?_
                  refine z_get (pc := 102) (v := .int (nI p3)) F iX8 0 rfl rfl 35 (by decide) tw_893 rfl dX8_readTest_102 ?_
                  refine z_iconst (pc := 105) (v := 1) F dX8_readTest_105 (by decide) ?_
                  refine z_iadd (pc := 106) F dX8_readTest_106 ?_
                  rw [show ((nI p3) + 1) = nI (p3 + 1) from (nI_1 _)]
                  refine z_put (pc := 107) (ws' := mw E r (mps S (nI (p3 + 1)) (nI (a + c3.length)) (nI (op + mm)) cd3 nm3)) F iX8 tyX8 tyX8_ok nmX8 0 rfl rfl 35 (by decide) tw_893 rfl rfl rfl (Nat.le_of_ble_eq_true rfl) dX8_readTest_107 rfl ?_
                  refine z_aload_n (pc := 110) F dX8_readTest_110 rfl 0 rfl ?_
                  rw [if_pos (by omega)] at e6; obtain ⟨p5, c5, hh5⟩ := pthen_inv e6; rcases hh5 with ⟨h5, e8⟩ | ⟨h5, e8⟩
                  · have hlt4 : p3 < tp := sx_lt h0 (by omega)
                    refine z_callVW (pc := 111) (q0 := 0) (ci := 8) (rest := []) F (pC_n (ihX k' (by omega)) h5 (by omega) (by omega) (by omega)) 0 ww_Model_202 (by decide +kernel) rfl (by constructor <;> (dsimp only; omega)) ⟨Nat.le_of_ble_eq_true rfl, Nat.le_of_ble_eq_true rfl⟩ rfl rfl rfl rfl (Nat.le_of_ble_eq_true rfl) dX8_readTest_111 (fun v_ w1_ hp => ?_)
                    obtain ⟨a5, op5, cd5, nm5, rfl, rfl, hA5⟩ := hp
                    show Z X (0) (0) (mw E r (mps S (nI p5) a5 op5 cd5 nm5)) [(0, .ref (r 0)), (1, .int (nI mm)), (2, .int (nI (sx p3)))] 114 [.int 0]
                    refine z_if_ne (pc := 114) (tgt := 119) F dX8_readTest_114 (by decide) (fun h => absurd h (by decide)) (fun _ => ?_)
                    refine z_iconst (pc := 117) (v := 0) F dX8_readTest_117 (by decide) ?_
                    exact z_zret (pc := 118) F hR rfl dX8_readTest_118 (Nat.le_of_ble_eq_true rfl) (Nat.le_of_ble_eq_true rfl) (by subst e8; exact lp_fail hw.1 hw.2.1 (agr_tr hA3 (by omega) hA5))
                  · have hlt4 : p3 < tp := sx_lt h0 (by omega)
                    have b5 : (p3 + 1) ≤ p5 ∧ ((p3 + 1) ≤ tp → p5 ≤ tp) ∧ c5.length ≤ 2 * (p5 - (p3 + 1)) := by simpa [bnd] using ps_b h0 _ _ _ _ _ (by decide) h5
                    refine z_callVW (pc := 111) (q0 := 0) (ci := 8) (rest := []) F (pC_y (ihX k' (by omega)) h5 (by omega) (by omega) (by omega)) 0 ww_Model_202 (by decide +kernel) rfl (by constructor <;> (dsimp only; omega)) ⟨Nat.le_of_ble_eq_true rfl, Nat.le_of_ble_eq_true rfl⟩ rfl rfl rfl rfl (Nat.le_of_ble_eq_true rfl) dX8_readTest_111 (fun v_ w1_ hp => ?_)
                    obtain ⟨cd5, nm5, rfl, rfl, hA5, hL5⟩ := hp
                    show Z X (0) (0) (mw E r (mps S (nI p5) (nI ((a + c3.length) + c5.length)) (nI (op + mm)) cd5 nm5)) [(0, .ref (r 0)), (1, .int (nI mm)), (2, .int (nI (sx p3)))] 114 [.int 1]
                    refine z_if_ne (pc := 114) (tgt := 119) F dX8_readTest_114 (by decide) (fun _ => ?_) (fun h => absurd h (by decide))
                    have e9 : R4 = (true, p5, c3 ++ (c5 ++ [(17, 0)])) := by rw [show cmpO (sx p3) = 17 by simp [cmpO, k89]] at e8; cases e8; rfl
                    refine z_aload_n (pc := 119) F dX8_readTest_119 rfl 0 rfl ?_
                    refine z_iload_n (pc := 120) F dX8_readTest_120 rfl 2 rfl ?_
                    refine z_bipush (pc := 121) (v := 61) F dX8_readTest_121 (by decide) ?_
                    refine z_icmp_ne (pc := 123) (tgt := 131) F dX8_readTest_123 (by decide) (fun c123 => ?_) (fun c123 => absurd c123 (fun h => absurd (nIe (b := 61) (by have := hsx p3; omega) (by decide) h) (by omega)))
                    refine z_iload_n (pc := 131) F dX8_readTest_131 rfl 2 rfl ?_
                    refine z_bipush (pc := 132) (v := 35) F dX8_readTest_132 (by decide) ?_
                    refine z_icmp_ne (pc := 134) (tgt := 142) F dX8_readTest_134 (by decide) (fun c134 => ?_) (fun c134 => absurd c134 (fun h => absurd (nIe (b := 35) (by have := hsx p3; omega) (by decide) h) (by omega)))
                    refine z_iload_n (pc := 142) F dX8_readTest_142 rfl 2 rfl ?_
                    refine z_bipush (pc := 143) (v := 60) F dX8_readTest_143 (by decide) ?_
                    refine z_icmp_ne (pc := 145) (tgt := 153) F dX8_readTest_145 (by decide) (fun c145 => absurd c145 (fun h => h (by rw [k89]; rfl))) (fun c145 => ?_)
                    refine z_bipush (pc := 148) (v := 17) F dX8_readTest_148 (by decide) ?_
                    refine z_goto (pc := 150) (tgt := 155) F dX8_readTest_150 (by decide) ?_
                    refine z_iconst (pc := 155) (v := 0) F dX8_readTest_155 (by decide) ?_
                    refine z_callVW (pc := 156) (q0 := 0) (ci := 8) (rest := []) F (c_X8_lay l E r S p5 (nI (op + mm)) cd5 nm5 nq ((a + c3.length) + c5.length) 17 0 hn6 hn3 (by omega)) 2 ww_Model_196 (by decide +kernel) rfl (by constructor <;> (dsimp only; omega)) ⟨Nat.le_of_ble_eq_true rfl, Nat.le_of_ble_eq_true rfl⟩ rfl rfl rfl rfl (Nat.le_of_ble_eq_true rfl) dX8_readTest_156 (fun v_ w1_ hp => ?_)
                    obtain ⟨rfl, rfl⟩ := hp
                    show Z X (0) (0) (mw E r (mps S (nI p5) (nI (((a + c3.length) + c5.length) + 1)) (nI (op + mm)) (upd cd5 (240 * nq + ((a + c3.length) + c5.length)) (nI 17)) (upd nm5 (240 * nq + ((a + c3.length) + c5.length)) (nI 0)))) [(0, .ref (r 0)), (1, .int (nI mm)), (2, .int (nI (sx p3)))] 159 []
                    obtain ⟨C5, hC5⟩ : ∃ C5 : List (Nat × Nat), C5 = c3 ++ (c5 ++ [(17, 0)]) := ⟨_, rfl⟩
                    have hCl : C5.length = c3.length + c5.length + 1 := by rw [hC5]; simp; omega
                    have hAC := agr_lay (k := 240 * nq + (a + c3.length + c5.length)) (x := nI 17) (y := nI 0) (agr_tr hA3 (by omega) hA5) (by omega)
                    have hLC := laid_app hL3 (agr_lay (k := 240 * nq + (a + c3.length + c5.length)) (x := nI 17) (y := nI 0) hA5 (by omega)) (laid_lay hL5)
                    rw [← hC5] at hLC e9
                    rw [show a + c3.length + c5.length + 1 = a + C5.length by omega]
                    refine z_iconst (pc := 159) (v := 0) F dX8_readTest_159 (by decide) ?_
                    refine z_istore_n (pc := 160) (lv' := [(0, .ref (r 0)), (1, .int (nI mm)), (2, .int 0)]) F dX8_readTest_160 rfl (by decide) [1, 2, 0] rfl ?_
                    have L161 : ∀ (N : Nat) (j : Nat) (cd7 : Nat → Int32) (nm7 : Nat → Int32), (mm - j) < N → (j ≤ mm) → (agr (240 * nq + a) cd nm cd7 nm7) → (laid cd7 nm7 (240 * nq + a) (C5 ++ List.replicate j (21, 0))) → Z X (0) (0) (mw E r (mps S (nI p5) (nI (a + C5.length + j)) (nI (op + (mm - j))) cd7 nm7)) [(0, .ref (r 0)), (1, .int (nI mm)), (2, .int (nI j))] 161 [] := by
                      intro N
                      induction N with
                      | zero => intro j cd7 nm7 hN; exact absurd hN (Nat.not_lt_zero _)
                      | succ N ih161 =>
                        intro j cd7 nm7 hN hj hA7 hL7
                        refine z_iload_n (pc := 161) F dX8_readTest_161 rfl 2 rfl ?_
                        refine z_iload_n (pc := 162) F dX8_readTest_162 rfl 1 rfl ?_
                        refine z_icmp_ge (pc := 163) (tgt := 189) F dX8_readTest_163 (by decide) (fun c163 => ?_) (fun c163 => ?_)
                        · have hje : j = mm := Nat.le_antisymm hj (gI (by omega) (by omega) c163)
                          subst hje
                          refine z_iconst (pc := 189) (v := 1) F dX8_readTest_189 (by decide) ?_
                          exact z_zret (pc := 190) F hR rfl dX8_readTest_190 (Nat.le_of_ble_eq_true rfl) (Nat.le_of_ble_eq_true rfl) (by have hw3 := hw.2.2 (by rw [e9]; try rfl); rw [e9] at hw hw3; exact lp_end2 hw.1 hw.2.1 hw3 hA7 hL7 (congrArg nI (by simp; omega)) (congrArg nI (by omega)))
                        · have hjl := ngI (by omega) (by omega) c163
                          refine z_aload_n (pc := 166) F dX8_readTest_166 rfl 0 rfl ?_
                          refine z_bipush (pc := 167) (v := 21) F dX8_readTest_167 (by decide) ?_
                          refine z_iconst (pc := 169) (v := 0) F dX8_readTest_169 (by decide) ?_
                          refine z_callVW (pc := 170) (q0 := 0) (ci := 8) (rest := []) F (c_X8_lay l E r S p5 (nI (op + (mm - j))) cd7 nm7 nq (a + C5.length + j) 21 0 hn6 hn3 (by first | omega | (simp only [List.length_cons, List.length_nil, List.length_append]; omega))) 2 ww_Model_196 (by decide +kernel) rfl (by constructor <;> (dsimp only; omega)) ⟨Nat.le_of_ble_eq_true rfl, Nat.le_of_ble_eq_true rfl⟩ rfl rfl rfl rfl (Nat.le_of_ble_eq_true rfl) dX8_readTest_170 (fun v_ w1_ hp => ?_)
                          obtain ⟨rfl, rfl⟩ := hp
                          show Z X (0) (0) (mw E r (mps S (nI p5) (nI ((a + C5.length + j) + 1)) (nI (op + (mm - j))) (upd cd7 (240 * nq + (a + C5.length + j)) (nI 21)) (upd nm7 (240 * nq + (a + C5.length + j)) (nI 0)))) [(0, .ref (r 0)), (1, .int (nI mm)), (2, .int (nI j))] 173 []
                          refine z_aload_n (pc := 173) F dX8_readTest_173 rfl 0 rfl ?_
                          refine z_dup (pc := 174) F dX8_readTest_174 rfl ?_
                          refine z_get (pc := 175) (v := .int (nI (op + (mm - j)))) F iX8 0 rfl rfl 37 (by decide) tw_895 rfl dX8_readTest_175 ?_
                          refine z_iconst (pc := 178) (v := 1) F dX8_readTest_178 (by decide) ?_
                          refine z_isub (pc := 179) F dX8_readTest_179 ?_
                          rw [show ((nI (op + (mm - j))) - 1) = nI (op + (mm - (j + 1))) from (by rw [show op + (mm - j) = (op + (mm - (j + 1))) + 1 by omega]; exact nI_pred _)]
                          refine z_put (pc := 180) (ws' := mw E r (mps S (nI p5) (nI ((a + C5.length + j) + 1)) (nI (op + (mm - (j + 1)))) (upd cd7 (240 * nq + (a + C5.length + j)) (nI 21)) (upd nm7 (240 * nq + (a + C5.length + j)) (nI 0)))) F iX8 tyX8 tyX8_ok nmX8 0 rfl rfl 37 (by decide) tw_895 rfl rfl rfl (Nat.le_of_ble_eq_true rfl) dX8_readTest_180 rfl ?_
                          refine z_iinc (pc := 183) (v := nI (j + 1)) (lv' := [(0, .ref (r 0)), (1, .int (nI mm)), (2, .int (nI (j + 1)))]) F (j := 2) dX8_readTest_183 rfl (nI_1 _) (by decide) [1, 2, 0] rfl ?_
                          refine z_goto (pc := 186) (tgt := 161) F dX8_readTest_186 (by decide) ?_
                          exact ih161 (j + 1) _ _ (by omega) (by omega) (agr_lay hA7 (by omega)) (by rw [rep_s, ← List.append_assoc]; have h9 := laid_lay (o := 21) (v := 0) hL7; rw [show a + (C5 ++ List.replicate j ((21, 0) : Nat × Nat)).length = a + C5.length + j from by rw [List.length_append, List.length_replicate]; omega] at h9; exact h9)
                    exact L161 _ 0 _ _ (Nat.lt_succ_self _) (Nat.zero_le _) hAC (by rw [List.replicate_zero, List.append_nil]; exact hLC)
                · have k89 : ¬ sx p3 = 60 := fun h => c89 (by rw [h]; rfl)
                  refine z_iload_n (pc := 92) F dX8_readTest_92 rfl 2 rfl ?_
                  refine z_bipush (pc := 93) (v := 62) F dX8_readTest_93 (by decide) ?_
                  refine z_icmp_eq (pc := 95) (tgt := 100) F dX8_readTest_95 (by decide) (fun c95 => ?_) (fun c95 => ?_)
                  · have k95 : sx p3 = 62 := nIe (b := 62) (by have := hsx (p3); omega) (by decide) c95
                    refine z_aload_n (pc := 100) F dX8_readTest_100 rfl 0 rfl ?_
                    refine z_dup (pc := 101) F dX8_readTest_101 rfl ?_
                    refine z_get (pc := 102) (v := .int (nI p3)) F iX8 0 rfl rfl 35 (by decide) tw_893 rfl dX8_readTest_102 ?_
                    refine z_iconst (pc := 105) (v := 1) F dX8_readTest_105 (by decide) ?_
                    refine z_iadd (pc := 106) F dX8_readTest_106 ?_
                    rw [show ((nI p3) + 1) = nI (p3 + 1) from (nI_1 _)]
                    refine z_put (pc := 107) (ws' := mw E r (mps S (nI (p3 + 1)) (nI (a + c3.length)) (nI (op + mm)) cd3 nm3)) F iX8 tyX8 tyX8_ok nmX8 0 rfl rfl 35 (by decide) tw_893 rfl rfl rfl (Nat.le_of_ble_eq_true rfl) dX8_readTest_107 rfl ?_
                    refine z_aload_n (pc := 110) F dX8_readTest_110 rfl 0 rfl ?_
                    rw [if_pos (by omega)] at e6; obtain ⟨p5, c5, hh5⟩ := pthen_inv e6; rcases hh5 with ⟨h5, e8⟩ | ⟨h5, e8⟩
                    · have hlt4 : p3 < tp := sx_lt h0 (by omega)
                      refine z_callVW (pc := 111) (q0 := 0) (ci := 8) (rest := []) F (pC_n (ihX k' (by omega)) h5 (by omega) (by omega) (by omega)) 0 ww_Model_202 (by decide +kernel) rfl (by constructor <;> (dsimp only; omega)) ⟨Nat.le_of_ble_eq_true rfl, Nat.le_of_ble_eq_true rfl⟩ rfl rfl rfl rfl (Nat.le_of_ble_eq_true rfl) dX8_readTest_111 (fun v_ w1_ hp => ?_)
                      obtain ⟨a5, op5, cd5, nm5, rfl, rfl, hA5⟩ := hp
                      show Z X (0) (0) (mw E r (mps S (nI p5) a5 op5 cd5 nm5)) [(0, .ref (r 0)), (1, .int (nI mm)), (2, .int (nI (sx p3)))] 114 [.int 0]
                      refine z_if_ne (pc := 114) (tgt := 119) F dX8_readTest_114 (by decide) (fun h => absurd h (by decide)) (fun _ => ?_)
                      refine z_iconst (pc := 117) (v := 0) F dX8_readTest_117 (by decide) ?_
                      exact z_zret (pc := 118) F hR rfl dX8_readTest_118 (Nat.le_of_ble_eq_true rfl) (Nat.le_of_ble_eq_true rfl) (by subst e8; exact lp_fail hw.1 hw.2.1 (agr_tr hA3 (by omega) hA5))
                    · have hlt4 : p3 < tp := sx_lt h0 (by omega)
                      have b5 : (p3 + 1) ≤ p5 ∧ ((p3 + 1) ≤ tp → p5 ≤ tp) ∧ c5.length ≤ 2 * (p5 - (p3 + 1)) := by simpa [bnd] using ps_b h0 _ _ _ _ _ (by decide) h5
                      refine z_callVW (pc := 111) (q0 := 0) (ci := 8) (rest := []) F (pC_y (ihX k' (by omega)) h5 (by omega) (by omega) (by omega)) 0 ww_Model_202 (by decide +kernel) rfl (by constructor <;> (dsimp only; omega)) ⟨Nat.le_of_ble_eq_true rfl, Nat.le_of_ble_eq_true rfl⟩ rfl rfl rfl rfl (Nat.le_of_ble_eq_true rfl) dX8_readTest_111 (fun v_ w1_ hp => ?_)
                      obtain ⟨cd5, nm5, rfl, rfl, hA5, hL5⟩ := hp
                      show Z X (0) (0) (mw E r (mps S (nI p5) (nI ((a + c3.length) + c5.length)) (nI (op + mm)) cd5 nm5)) [(0, .ref (r 0)), (1, .int (nI mm)), (2, .int (nI (sx p3)))] 114 [.int 1]
                      refine z_if_ne (pc := 114) (tgt := 119) F dX8_readTest_114 (by decide) (fun _ => ?_) (fun h => absurd h (by decide))
                      have e9 : R4 = (true, p5, c3 ++ (c5 ++ [(18, 0)])) := by rw [show cmpO (sx p3) = 18 by simp [cmpO, k95]] at e8; cases e8; rfl
                      refine z_aload_n (pc := 119) F dX8_readTest_119 rfl 0 rfl ?_
                      refine z_iload_n (pc := 120) F dX8_readTest_120 rfl 2 rfl ?_
                      refine z_bipush (pc := 121) (v := 61) F dX8_readTest_121 (by decide) ?_
                      refine z_icmp_ne (pc := 123) (tgt := 131) F dX8_readTest_123 (by decide) (fun c123 => ?_) (fun c123 => absurd c123 (fun h => absurd (nIe (b := 61) (by have := hsx p3; omega) (by decide) h) (by omega)))
                      refine z_iload_n (pc := 131) F dX8_readTest_131 rfl 2 rfl ?_
                      refine z_bipush (pc := 132) (v := 35) F dX8_readTest_132 (by decide) ?_
                      refine z_icmp_ne (pc := 134) (tgt := 142) F dX8_readTest_134 (by decide) (fun c134 => ?_) (fun c134 => absurd c134 (fun h => absurd (nIe (b := 35) (by have := hsx p3; omega) (by decide) h) (by omega)))
                      refine z_iload_n (pc := 142) F dX8_readTest_142 rfl 2 rfl ?_
                      refine z_bipush (pc := 143) (v := 60) F dX8_readTest_143 (by decide) ?_
                      refine z_icmp_ne (pc := 145) (tgt := 153) F dX8_readTest_145 (by decide) (fun c145 => ?_) (fun c145 => absurd c145 (fun h => absurd (nIe (b := 60) (by have := hsx p3; omega) (by decide) h) (by omega)))
                      refine z_bipush (pc := 153) (v := 18) F dX8_readTest_153 (by decide) ?_
                      refine z_iconst (pc := 155) (v := 0) F dX8_readTest_155 (by decide) ?_
                      refine z_callVW (pc := 156) (q0 := 0) (ci := 8) (rest := []) F (c_X8_lay l E r S p5 (nI (op + mm)) cd5 nm5 nq ((a + c3.length) + c5.length) 18 0 hn6 hn3 (by omega)) 2 ww_Model_196 (by decide +kernel) rfl (by constructor <;> (dsimp only; omega)) ⟨Nat.le_of_ble_eq_true rfl, Nat.le_of_ble_eq_true rfl⟩ rfl rfl rfl rfl (Nat.le_of_ble_eq_true rfl) dX8_readTest_156 (fun v_ w1_ hp => ?_)
                      obtain ⟨rfl, rfl⟩ := hp
                      show Z X (0) (0) (mw E r (mps S (nI p5) (nI (((a + c3.length) + c5.length) + 1)) (nI (op + mm)) (upd cd5 (240 * nq + ((a + c3.length) + c5.length)) (nI 18)) (upd nm5 (240 * nq + ((a + c3.length) + c5.length)) (nI 0)))) [(0, .ref (r 0)), (1, .int (nI mm)), (2, .int (nI (sx p3)))] 159 []
                      obtain ⟨C5, hC5⟩ : ∃ C5 : List (Nat × Nat), C5 = c3 ++ (c5 ++ [(18, 0)]) := ⟨_, rfl⟩
                      have hCl : C5.length = c3.length + c5.length + 1 := by rw [hC5]; simp; omega
                      have hAC := agr_lay (k := 240 * nq + (a + c3.length + c5.length)) (x := nI 18) (y := nI 0) (agr_tr hA3 (by omega) hA5) (by omega)
                      have hLC := laid_app hL3 (agr_lay (k := 240 * nq + (a + c3.length + c5.length)) (x := nI 18) (y := nI 0) hA5 (by omega)) (laid_lay hL5)
                      rw [← hC5] at hLC e9
                      rw [show a + c3.length + c5.length + 1 = a + C5.length by omega]
                      refine z_iconst (pc := 159) (v := 0) F dX8_readTest_159 (by decide) ?_
                      refine z_istore_n (pc := 160) (lv' := [(0, .ref (r 0)), (1, .int (nI mm)), (2, .int 0)]) F dX8_readTest_160 rfl (by decide) [1, 2, 0] rfl ?_
                      have L161 : ∀ (N : Nat) (j : Nat) (cd7 : Nat → Int32) (nm7 : Nat → Int32), (mm - j) < N → (j ≤ mm) → (agr (240 * nq + a) cd nm cd7 nm7) → (laid cd7 nm7 (240 * nq + a) (C5 ++ List.replicate j (21, 0))) → Z X (0) (0) (mw E r (mps S (nI p5) (nI (a + C5.length + j)) (nI (op + (mm - j))) cd7 nm7)) [(0, .ref (r 0)), (1, .int (nI mm)), (2, .int (nI j))] 161 [] := by
                        intro N
                        induction N with
                        | zero => intro j cd7 nm7 hN; exact absurd hN (Nat.not_lt_zero _)
                        | succ N ih161 =>
                          intro j cd7 nm7 hN hj hA7 hL7
                          refine z_iload_n (pc := 161) F dX8_readTest_161 rfl 2 rfl ?_
                          refine z_iload_n (pc := 162) F dX8_readTest_162 rfl 1 rfl ?_
                          refine z_icmp_ge (pc := 163) (tgt := 189) F dX8_readTest_163 (by decide) (fun c163 => ?_) (fun c163 => ?_)
                          · have hje : j = mm := Nat.le_antisymm hj (gI (by omega) (by omega) c163)
                            subst hje
                            refine z_iconst (pc := 189) (v := 1) F dX8_readTest_189 (by decide) ?_
                            exact z_zret (pc := 190) F hR rfl dX8_readTest_190 (Nat.le_of_ble_eq_true rfl) (Nat.le_of_ble_eq_true rfl) (by have hw3 := hw.2.2 (by rw [e9]; try rfl); rw [e9] at hw hw3; exact lp_end2 hw.1 hw.2.1 hw3 hA7 hL7 (congrArg nI (by simp; omega)) (congrArg nI (by omega)))
                          · have hjl := ngI (by omega) (by omega) c163
                            refine z_aload_n (pc := 166) F dX8_readTest_166 rfl 0 rfl ?_
                            refine z_bipush (pc := 167) (v := 21) F dX8_readTest_167 (by decide) ?_
                            refine z_iconst (pc := 169) (v := 0) F dX8_readTest_169 (by decide) ?_
                            refine z_callVW (pc := 170) (q0 := 0) (ci := 8) (rest := []) F (c_X8_lay l E r S p5 (nI (op + (mm - j))) cd7 nm7 nq (a + C5.length + j) 21 0 hn6 hn3 (by first | omega | (simp only [List.length_cons, List.length_nil, List.length_append]; omega))) 2 ww_Model_196 (by decide +kernel) rfl (by constructor <;> (dsimp only; omega)) ⟨Nat.le_of_ble_eq_true rfl, Nat.le_of_ble_eq_true rfl⟩ rfl rfl rfl rfl (Nat.le_of_ble_eq_true rfl) dX8_readTest_170 (fun v_ w1_ hp => ?_)
                            obtain ⟨rfl, rfl⟩ := hp
                            show Z X (0) (0) (mw E r (mps S (nI p5) (nI ((a + C5.length + j) + 1)) (nI (op + (mm - j))) (upd cd7 (240 * nq + (a + C5.length + j)) (nI 21)) (upd nm7 (240 * nq + (a + C5.length + j)) (nI 0)))) [(0, .ref (r 0)), (1, .int (nI mm)), (2, .int (nI j))] 173 []
                            refine z_aload_n (pc := 173) F dX8_readTest_173 rfl 0 rfl ?_
                            refine z_dup (pc := 174) F dX8_readTest_174 rfl ?_
                            refine z_get (pc := 175) (v := .int (nI (op + (mm - j)))) F iX8 0 rfl rfl 37 (by decide) tw_895 rfl dX8_readTest_175 ?_
                            refine z_iconst (pc := 178) (v := 1) F dX8_readTest_178 (by decide) ?_
                            refine z_isub (pc := 179) F dX8_readTest_179 ?_
                            rw [show ((nI (op + (mm - j))) - 1) = nI (op + (mm - (j + 1))) from (by rw [show op + (mm - j) = (op + (mm - (j + 1))) + 1 by omega]; exact nI_pred _)]
                            refine z_put (pc := 180) (ws' := mw E r (mps S (nI p5) (nI ((a + C5.length + j) + 1)) (nI (op + (mm - (j + 1)))) (upd cd7 (240 * nq + (a + C5.length + j)) (nI 21)) (upd nm7 (240 * nq + (a + C5.length + j)) (nI 0)))) F iX8 tyX8 tyX8_ok nmX8 0 rfl rfl 37 (by decide) tw_895 rfl rfl rfl (Nat.le_of_ble_eq_true rfl) dX8_readTest_180 rfl ?_
                            refine z_iinc (pc := 183) (v := nI (j + 1)) (lv' := [(0, .ref (r 0)), (1, .int (nI mm)), (2, .int (nI (j + 1)))]) F (j := 2) dX8_readTest_183 rfl (nI_1 _) (by decide) [1, 2, 0] rfl ?_
                            refine z_goto (pc := 186) (tgt := 161) F dX8_readTest_186 (by decide) ?_
                            exact ih161 (j + 1) _ _ (by omega) (by omega) (agr_lay hA7 (by omega)) (by rw [rep_s, ← List.append_assoc]; have h9 := laid_lay (o := 21) (v := 0) hL7; rw [show a + (C5 ++ List.replicate j ((21, 0) : Nat × Nat)).length = a + C5.length + j from by rw [List.length_append, List.length_replicate]; omega] at h9; exact h9)
                      exact L161 _ 0 _ _ (Nat.lt_succ_self _) (Nat.zero_le _) hAC (by rw [List.replicate_zero, List.append_nil]; exact hLC)
                  · have k95 : ¬ sx p3 = 62 := fun h => c95 (by rw [h]; rfl)
                    refine z_iconst (pc := 98) (v := 0) F dX8_readTest_98 (by decide) ?_
                    exact z_zret (pc := 99) F hR rfl dX8_readTest_99 (Nat.le_of_ble_eq_true rfl) (Nat.le_of_ble_eq_true rfl) (by rw [if_neg (by omega)] at e6; cases e6; exact lp_fail hw.1 hw.2.1 hA3)
        · have k32 : sx (p + mm) = 123 := nIe (b := 123) (by have := hsx ((p + mm)); omega) (by decide) c32
          refine z_aload_n (pc := 35) F dX8_readTest_35 rfl 0 rfl ?_
          rcases Classical.em (op + mm = 12) with ko | ko
          · have hlt2 : p + mm < tp := sx_lt h0 (by omega)
            rw [ko]
            refine z_callVW (pc := 36) (q0 := 0) (ci := 8) (rest := []) F (c_X8_open_n l E r S (p + mm) (nI a) cd nm) 0 ww_Model_199 (by decide +kernel) rfl (by constructor <;> (dsimp only; omega)) ⟨Nat.le_of_ble_eq_true rfl, Nat.le_of_ble_eq_true rfl⟩ rfl rfl rfl rfl (Nat.le_of_ble_eq_true rfl) dX8_readTest_36 (fun v_ w1_ hp => ?_)
            obtain ⟨rfl, rfl⟩ := hp
            show Z X (0) (0) (mw E r (mps S (nI (p + mm)) (nI a) (nI 12) cd nm)) [(0, .ref (r 0)), (1, .int (nI mm))] 39 [.int (bI false)]
            rw [show (bI false) = 0 from rfl]
            refine z_if_eq (pc := 39) (tgt := 58) F dX8_readTest_39 (by decide) (fun _ => ?_) (fun h => absurd h (by decide))
            refine z_iconst (pc := 58) (v := 0) F dX8_readTest_58 (by decide) ?_
            exact z_zret (pc := 59) F hR rfl dX8_readTest_59 (Nat.le_of_ble_eq_true rfl) (Nat.le_of_ble_eq_true rfl) (by have e4 := p4_pn hl k8 k32 ko; subst e4; exact lp_fail hw.1 hw.2.1 (agr_rf _ _ _))
          · have hlt2 : p + mm < tp := sx_lt h0 (by omega)
            refine z_callVW (pc := 36) (q0 := 0) (ci := 8) (rest := []) F (c_X8_open_y l E r S (p + mm) (nI a) (op + mm) cd nm (by omega)) 0 ww_Model_199 (by decide +kernel) rfl (by constructor <;> (dsimp only; omega)) ⟨Nat.le_of_ble_eq_true rfl, Nat.le_of_ble_eq_true rfl⟩ rfl rfl rfl rfl (Nat.le_of_ble_eq_true rfl) dX8_readTest_36 (fun v_ w1_ hp => ?_)
            obtain ⟨rfl, rfl⟩ := hp
            show Z X (0) (0) (mw E r (mps S (nI ((p + mm) + 1)) (nI a) (nI ((op + mm) + 1)) cd nm)) [(0, .ref (r 0)), (1, .int (nI mm))] 39 [.int (bI true)]
            rw [show (bI true) = 1 from rfl]
            refine z_if_eq (pc := 39) (tgt := 58) F dX8_readTest_39 (by decide) (fun h => absurd h (by decide)) (fun _ => ?_)
            refine z_aload_n (pc := 42) F dX8_readTest_42 rfl 0 rfl ?_
            obtain ⟨p3, c3, hh3⟩ := pthen_inv (p4_py hl k8 k32 ko); rcases hh3 with ⟨h3, e6⟩ | ⟨h3, e6⟩
            · skip
              refine z_callVW (pc := 43) (q0 := 0) (ci := 8) (rest := []) F (pC_n (ihI k' (by omega)) h3 (by omega) (by omega) (by omega)) 0 ww_Model_220 (by decide +kernel) rfl (by constructor <;> (dsimp only; omega)) ⟨Nat.le_of_ble_eq_true rfl, Nat.le_of_ble_eq_true rfl⟩ rfl rfl rfl rfl (Nat.le_of_ble_eq_true rfl) dX8_readTest_43 (fun v_ w1_ hp => ?_)
              obtain ⟨a3, op3, cd3, nm3, rfl, rfl, hA3⟩ := hp
              show Z X (0) (0) (mw E r (mps S (nI p3) a3 op3 cd3 nm3)) [(0, .ref (r 0)), (1, .int (nI mm))] 46 [.int 0]
              refine z_if_eq (pc := 46) (tgt := 58) F dX8_readTest_46 (by decide) (fun _ => ?_) (fun h => absurd h (by decide))
              refine z_iconst (pc := 58) (v := 0) F dX8_readTest_58 (by decide) ?_
              exact z_zret (pc := 59) F hR rfl dX8_readTest_59 (Nat.le_of_ble_eq_true rfl) (Nat.le_of_ble_eq_true rfl) (by subst e6; exact lp_fail hw.1 hw.2.1 hA3)
            · have b3 : (p + mm + 1) ≤ p3 ∧ ((p + mm + 1) ≤ tp → p3 ≤ tp) ∧ c3.length ≤ 2 * (p3 - (p + mm + 1)) := by simpa [bnd] using ps_b h0 _ _ _ _ _ (by decide) h3
              refine z_callVW (pc := 43) (q0 := 0) (ci := 8) (rest := []) F (pC_y (ihI k' (by omega)) h3 (by omega) (by omega) (by omega)) 0 ww_Model_220 (by decide +kernel) rfl (by constructor <;> (dsimp only; omega)) ⟨Nat.le_of_ble_eq_true rfl, Nat.le_of_ble_eq_true rfl⟩ rfl rfl rfl rfl (Nat.le_of_ble_eq_true rfl) dX8_readTest_43 (fun v_ w1_ hp => ?_)
              obtain ⟨cd3, nm3, rfl, rfl, hA3, hL3⟩ := hp
              show Z X (0) (0) (mw E r (mps S (nI p3) (nI (a + c3.length)) (nI ((op + mm) + 1)) cd3 nm3)) [(0, .ref (r 0)), (1, .int (nI mm))] 46 [.int 1]
              refine z_if_eq (pc := 46) (tgt := 58) F dX8_readTest_46 (by decide) (fun h => absurd h (by decide)) (fun _ => ?_)
              refine z_aload_n (pc := 49) F dX8_readTest_49 rfl 0 rfl ?_
              refine z_bipush (pc := 50) (v := 125) F dX8_readTest_50 (by decide) ?_
              rcases Classical.em (sx p3 = 125) with kc | kc
              · have hlt4 : p3 < tp := sx_lt h0 (by omega)
                refine z_callVW (pc := 52) (q0 := 0) (ci := 8) (rest := []) F (c_X8_close_y l E r S tp sx p3 (nI (a + c3.length)) (op + mm) cd3 nm3 125 ht (by omega) (by decide) kc) 1 ww_Model_205 (by decide +kernel) rfl (by constructor <;> (dsimp only; omega)) ⟨Nat.le_of_ble_eq_true rfl, Nat.le_of_ble_eq_true rfl⟩ rfl rfl rfl rfl (Nat.le_of_ble_eq_true rfl) dX8_readTest_52 (fun v_ w1_ hp => ?_)
                obtain ⟨rfl, rfl⟩ := hp
                show Z X (0) (0) (mw E r (mps S (nI (p3 + 1)) (nI (a + c3.length)) (nI (op + mm)) cd3 nm3)) [(0, .ref (r 0)), (1, .int (nI mm))] 55 [.int (bI true)]
                rw [show (bI true) = 1 from rfl]
                refine z_if_ne (pc := 55) (tgt := 159) F dX8_readTest_55 (by decide) (fun _ => ?_) (fun h => absurd h (by decide))
                refine z_iconst (pc := 159) (v := 0) F dX8_readTest_159 (by decide) ?_
                refine z_istore_n (pc := 160) (lv' := [(0, .ref (r 0)), (1, .int (nI mm)), (2, .int 0)]) F dX8_readTest_160 rfl (by decide) [1, 2, 0] rfl ?_
                have L161 : ∀ (N : Nat) (j : Nat) (cd7 : Nat → Int32) (nm7 : Nat → Int32), (mm - j) < N → (j ≤ mm) → (agr (240 * nq + a) cd nm cd7 nm7) → (laid cd7 nm7 (240 * nq + a) (c3 ++ List.replicate j (21, 0))) → Z X (0) (0) (mw E r (mps S (nI (p3 + 1)) (nI (a + c3.length + j)) (nI (op + (mm - j))) cd7 nm7)) [(0, .ref (r 0)), (1, .int (nI mm)), (2, .int (nI j))] 161 [] := by
                  intro N
                  induction N with
                  | zero => intro j cd7 nm7 hN; exact absurd hN (Nat.not_lt_zero _)
                  | succ N ih161 =>
                    intro j cd7 nm7 hN hj hA7 hL7
                    refine z_iload_n (pc := 161) F dX8_readTest_161 rfl 2 rfl ?_
                    refine z_iload_n (pc := 162) F dX8_readTest_162 rfl 1 rfl ?_
                    refine z_icmp_ge (pc := 163) (tgt := 189) F dX8_readTest_163 (by decide) (fun c163 => ?_) (fun c163 => ?_)
                    · have hje : j = mm := Nat.le_antisymm hj (gI (by omega) (by omega) c163)
                      subst hje
                      refine z_iconst (pc := 189) (v := 1) F dX8_readTest_189 (by decide) ?_
                      exact z_zret (pc := 190) F hR rfl dX8_readTest_190 (Nat.le_of_ble_eq_true rfl) (Nat.le_of_ble_eq_true rfl) (by have hw3 := hw.2.2 (by rw [clo_y e6 kc]; try rfl); rw [clo_y e6 kc] at hw hw3; exact lp_end2 hw.1 hw.2.1 hw3 hA7 hL7 (congrArg nI (by simp; omega)) (congrArg nI (by omega)))
                    · have hjl := ngI (by omega) (by omega) c163
                      refine z_aload_n (pc := 166) F dX8_readTest_166 rfl 0 rfl ?_
                      refine z_bipush (pc := 167) (v := 21) F dX8_readTest_167 (by decide) ?_
                      refine z_iconst (pc := 169) (v := 0) F dX8_readTest_169 (by decide) ?_
                      refine z_callVW (pc := 170) (q0 := 0) (ci := 8) (rest := []) F (c_X8_lay l E r S (p3 + 1) (nI (op + (mm - j))) cd7 nm7 nq (a + c3.length + j) 21 0 hn6 hn3 (by first | omega | (simp only [List.length_cons, List.length_nil, List.length_append]; omega))) 2 ww_Model_196 (by decide +kernel) rfl (by constructor <;> (dsimp only; omega)) ⟨Nat.le_of_ble_eq_true rfl, Nat.le_of_ble_eq_true rfl⟩ rfl rfl rfl rfl (Nat.le_of_ble_eq_true rfl) dX8_readTest_170 (fun v_ w1_ hp => ?_)
                      obtain ⟨rfl, rfl⟩ := hp
                      show Z X (0) (0) (mw E r (mps S (nI (p3 + 1)) (nI ((a + c3.length + j) + 1)) (nI (op + (mm - j))) (upd cd7 (240 * nq + (a + c3.length + j)) (nI 21)) (upd nm7 (240 * nq + (a + c3.length + j)) (nI 0)))) [(0, .ref (r 0)), (1, .int (nI mm)), (2, .int (nI j))] 173 []
                      refine z_aload_n (pc := 173) F dX8_readTest_173 rfl 0 rfl ?_
                      refine z_dup (pc := 174) F dX8_readTest_174 rfl ?_
                      refine z_get (pc := 175) (v := .int (nI (op + (mm - j)))) F iX8 0 rfl rfl 37 (by decide) tw_895 rfl dX8_readTest_175 ?_
                      refine z_iconst (pc := 178) (v := 1) F dX8_readTest_178 (by decide) ?_
                      refine z_isub (pc := 179) F dX8_readTest_179 ?_
                      rw [show ((nI (op + (mm - j))) - 1) = nI (op + (mm - (j + 1))) from (by rw [show op + (mm - j) = (op + (mm - (j + 1))) + 1 by omega]; exact nI_pred _)]
                      refine z_put (pc := 180) (ws' := mw E r (mps S (nI (p3 + 1)) (nI ((a + c3.length + j) + 1)) (nI (op + (mm - (j + 1)))) (upd cd7 (240 * nq + (a + c3.length + j)) (nI 21)) (upd nm7 (240 * nq + (a + c3.length + j)) (nI 0)))) F iX8 tyX8 tyX8_ok nmX8 0 rfl rfl 37 (by decide) tw_895 rfl rfl rfl (Nat.le_of_ble_eq_true rfl) dX8_readTest_180 rfl ?_
                      refine z_iinc (pc := 183) (v := nI (j + 1)) (lv' := [(0, .ref (r 0)), (1, .int (nI mm)), (2, .int (nI (j + 1)))]) F (j := 2) dX8_readTest_183 rfl (nI_1 _) (by decide) [1, 2, 0] rfl ?_
                      refine z_goto (pc := 186) (tgt := 161) F dX8_readTest_186 (by decide) ?_
                      exact ih161 (j + 1) _ _ (by omega) (by omega) (agr_lay hA7 (by omega)) (by rw [rep_s, ← List.append_assoc]; have h9 := laid_lay (o := 21) (v := 0) hL7; rw [show a + (c3 ++ List.replicate j ((21, 0) : Nat × Nat)).length = a + c3.length + j from by rw [List.length_append, List.length_replicate]; omega] at h9; exact h9)
                exact L161 _ 0 _ _ (Nat.lt_succ_self _) (Nat.zero_le _) hA3 (by rw [List.replicate_zero, List.append_nil]; exact hL3)
              · skip
                refine z_callVW (pc := 52) (q0 := 0) (ci := 8) (rest := []) F (c_X8_close_n l E r S tp sx p3 (nI (a + c3.length)) (nI ((op + mm) + 1)) cd3 nm3 125 ht (by omega) (by decide) kc) 1 ww_Model_205 (by decide +kernel) rfl (by constructor <;> (dsimp only; omega)) ⟨Nat.le_of_ble_eq_true rfl, Nat.le_of_ble_eq_true rfl⟩ rfl rfl rfl rfl (Nat.le_of_ble_eq_true rfl) dX8_readTest_52 (fun v_ w1_ hp => ?_)
                obtain ⟨rfl, rfl⟩ := hp
                show Z X (0) (0) (mw E r (mps S (nI p3) (nI (a + c3.length)) (nI ((op + mm) + 1)) cd3 nm3)) [(0, .ref (r 0)), (1, .int (nI mm))] 55 [.int (bI false)]
                rw [show (bI false) = 0 from rfl]
                refine z_if_ne (pc := 55) (tgt := 159) F dX8_readTest_55 (by decide) (fun h => absurd h (by decide)) (fun _ => ?_)
                refine z_iconst (pc := 58) (v := 0) F dX8_readTest_58 (by decide) ?_
                exact z_zret (pc := 59) F hR rfl dX8_readTest_59 (Nat.le_of_ble_eq_true rfl) (Nat.le_of_ble_eq_true rfl) (by have e4 := clo_n e6 kc; subst e4; exact lp_fail hw.1 hw.2.1 hA3)
      · have k8 : sx (p + mm) = 33 := nIe (b := 33) (by have := hsx ((p + mm)); omega) (by decide) c8
        refine z_aload_n (pc := 11) F dX8_readTest_11 rfl 0 rfl ?_
        rcases Classical.em (op + mm = 12) with ko | ko
        · have hlt2 : p + mm < tp := sx_lt h0 (by omega)
          rw [ko]
          refine z_callVW (pc := 12) (q0 := 0) (ci := 8) (rest := []) F (c_X8_open_n l E r S (p + mm) (nI a) cd nm) 0 ww_Model_199 (by decide +kernel) rfl (by constructor <;> (dsimp only; omega)) ⟨Nat.le_of_ble_eq_true rfl, Nat.le_of_ble_eq_true rfl⟩ rfl rfl rfl rfl (Nat.le_of_ble_eq_true rfl) dX8_readTest_12 (fun v_ w1_ hp => ?_)
          obtain ⟨rfl, rfl⟩ := hp
          show Z X (0) (0) (mw E r (mps S (nI (p + mm)) (nI a) (nI 12) cd nm)) [(0, .ref (r 0)), (1, .int (nI mm))] 15 [.int (bI false)]
          rw [show (bI false) = 0 from rfl]
          refine z_if_ne (pc := 15) (tgt := 20) F dX8_readTest_15 (by decide) (fun h => absurd h (by decide)) (fun _ => ?_)
          refine z_iconst (pc := 18) (v := 0) F dX8_readTest_18 (by decide) ?_
          exact z_zret (pc := 19) F hR rfl dX8_readTest_19 (Nat.le_of_ble_eq_true rfl) (Nat.le_of_ble_eq_true rfl) (by have e4 := p4_mn hl k8 ko; subst e4; exact lp_fail hw.1 hw.2.1 (agr_rf _ _ _))
        · have hlt2 : p + mm < tp := sx_lt h0 (by omega)
          refine z_callVW (pc := 12) (q0 := 0) (ci := 8) (rest := []) F (c_X8_open_y l E r S (p + mm) (nI a) (op + mm) cd nm (by omega)) 0 ww_Model_199 (by decide +kernel) rfl (by constructor <;> (dsimp only; omega)) ⟨Nat.le_of_ble_eq_true rfl, Nat.le_of_ble_eq_true rfl⟩ rfl rfl rfl rfl (Nat.le_of_ble_eq_true rfl) dX8_readTest_12 (fun v_ w1_ hp => ?_)
          obtain ⟨rfl, rfl⟩ := hp
          show Z X (0) (0) (mw E r (mps S (nI ((p + mm) + 1)) (nI a) (nI ((op + mm) + 1)) cd nm)) [(0, .ref (r 0)), (1, .int (nI mm))] 15 [.int (bI true)]
          rw [show (bI true) = 1 from rfl]
          refine z_if_ne (pc := 15) (tgt := 20) F dX8_readTest_15 (by decide) (fun _ => ?_) (fun h => absurd h (by decide))
          refine z_iinc (pc := 20) (v := nI (mm + 1)) (lv' := [(0, .ref (r 0)), (1, .int (nI (mm + 1)))]) F (j := 1) dX8_readTest_20 rfl (nI_1 _) (by decide) [1, 0] rfl ?_
          refine z_goto (pc := 23) (tgt := 2) F dX8_readTest_23 (by decide) ?_
          obtain ⟨R5, h5, hw5⟩ := wrO_s hw (p4_my hl k8 ko); exact ih2 k' (mm + 1) R5 (by omega) (by omega) h5 hw5 (by omega) (by omega)
  exact L2 _ n 0 R (Nat.lt_succ_self _) (Nat.le_refl _) hH (wrO_0 21 R) hp hop

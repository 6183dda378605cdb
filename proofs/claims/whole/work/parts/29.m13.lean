set_option maxHeartbeats 4000000 in
set_option maxRecDepth 100000 in
theorem c_X8_readOr_p (l : Launch) (E : zE) (r : Nat → Nat) (S : zS) (nq : Nat) (tp : Nat) (sx : Nat → Nat) (n : Nat) (p : Nat) (op : Nat) (a : Nat) (cd : Nat → Int32) (nm : Nat → Int32) (R : zRs) (ht : tpo S tp sx) (hn6 : nq < 6) (hn3 : zi S 3 = nI nq) (ihS : ∀ m : Nat, m < n → pC l E r S nq tp yX8_readAnd cX8_readAnd 1 (fun p op R => ps sx m 2 p op = some R) m) (hH : ps sx n 0 p op = some R) (hp : p ≤ tp) (ha : a ≤ 2 * p) (hop : op ≤ 12) : Ct l yX8_readOr cX8_readOr 1 (some .boolean) (prm n) E (mw E r (mps S (nI p) (nI a) (nI op) cd nm)) [.ref (r 0)] (fun v_ w_ => ∃ a' : Int32, ∃ op' : Int32, ∃ cd' : Nat → Int32, ∃ nm' : Nat → Int32, v_ = some (.int (bI R.1)) ∧ w_ = mw E r (mps S (nI R.2.1) a' op' cd' nm') ∧ (agr (240 * nq + a) cd nm cd' nm') ∧ (R.1 = true → a' = nI (a + R.2.2.length) ∧ op' = nI op ∧ laid cd' nm' (240 * nq + a) R.2.2)) := by
  refine Ct.of (by decide) (Nat.le_of_ble_eq_true rfl) (lv := [(0, .ref (r 0))]) rfl ?_
  intro X F hR
  have F : zF X l (prm n) E cX8_readOr 1 "LiveQueriesModel" := F
  have htp := ht.2.1
  have hsx := ht.2.2.2.2
  have h0 := ht.2.2.2.1
  obtain ⟨n', rfl⟩ : ∃ n', n = n' + 1 := by cases n with | zero => cases hH | succ n' => exact ⟨n', rfl⟩
  obtain ⟨p1, c1, hh⟩ := ps_two (sx := sx) (r1 := ps sx n' 2 p op) (g := fun p => ps sx n' 1 p op) hH
  rcases hh with ⟨h1, rfl⟩ | ⟨h1, R2, h2, rfl⟩
  · skip
    refine z_aload_n (pc := 0) F dX8_readOr_0 rfl 0 rfl ?_
    refine z_callVW (pc := 1) (q0 := 0) (ci := 8) (rest := []) F (pC_n (ihS n' (by omega)) h1 hp ha hop) 0 ww_Model_226 (by decide +kernel) rfl (by constructor <;> (dsimp only; omega)) ⟨Nat.le_of_ble_eq_true rfl, Nat.le_of_ble_eq_true rfl⟩ rfl rfl rfl rfl (Nat.le_of_ble_eq_true rfl) dX8_readOr_1 (fun v_ w1_ hp => ?_)
    obtain ⟨a1, op1, cd1, nm1, rfl, rfl, h1_0⟩ := hp
    show Z X (0) (0) (mw E r (mps S (nI p1) a1 op1 cd1 nm1)) [(0, .ref (r 0))] 4 [.int 0]
    refine z_if_ne (pc := 4) (tgt := 9) F dX8_readOr_4 (by decide) (fun h => absurd h (by decide)) (fun _ => ?_)
    refine z_iconst (pc := 7) (v := 0) F dX8_readOr_7 (by decide) ?_
    exact z_zret (pc := 8) F hR rfl dX8_readOr_8 (Nat.le_of_ble_eq_true rfl) (Nat.le_of_ble_eq_true rfl) (lp_fail rfl rfl h1_0)
  · skip
    refine z_aload_n (pc := 0) F dX8_readOr_0 rfl 0 rfl ?_
    refine z_callVW (pc := 1) (q0 := 0) (ci := 8) (rest := []) F (pC_y (ihS n' (by omega)) h1 hp ha hop) 0 ww_Model_226 (by decide +kernel) rfl (by constructor <;> (dsimp only; omega)) ⟨Nat.le_of_ble_eq_true rfl, Nat.le_of_ble_eq_true rfl⟩ rfl rfl rfl rfl (Nat.le_of_ble_eq_true rfl) dX8_readOr_1 (fun v_ w1_ hp => ?_)
    obtain ⟨cd1, nm1, rfl, rfl, h1_0, h1_1⟩ := hp
    show Z X (0) (0) (mw E r (mps S (nI p1) (nI (a + c1.length)) (nI op) cd1 nm1)) [(0, .ref (r 0))] 4 [.int 1]
    refine z_if_ne (pc := 4) (tgt := 9) F dX8_readOr_4 (by decide) (fun _ => ?_) (fun h => absurd h (by decide))
    have L9 : ∀ (N : Nat) (k : Nat) (p2 : Nat) (c0 : List (Nat × Nat)) (cd2 : Nat → Int32) (nm2 : Nat → Int32) (R4 : zRs), k < N → (k ≤ n') → (ps sx k 1 p2 op = some R4) → (R4.1 = R2.1) → (R4.2.1 = R2.2.1) → (c0 ++ R4.2.2 = c1 ++ R2.2.2) → (p2 ≤ tp) → (a + c0.length ≤ 2 * p2) → (agr (240 * nq + a) cd nm cd2 nm2) → (laid cd2 nm2 (240 * nq + a) c0) → Z X (0) (0) (mw E r (mps S (nI p2) (nI (a + c0.length)) (nI op) cd2 nm2)) [(0, .ref (r 0))] 9 [] := by
      intro N
      induction N with
      | zero => intro k p2 c0 cd2 nm2 R4 hN; exact absurd hN (Nat.not_lt_zero _)
      | succ N ih9 =>
        intro k p2 c0 cd2 nm2 R4 hN hk hl he1 he2 he3 hp2 ha2 hg2 hl2
        obtain ⟨k', rfl⟩ : ∃ k', k = k' + 1 := by cases k with | zero => cases hl | succ k' => exact ⟨k', rfl⟩
        refine z_aload_n (pc := 9) F dX8_readOr_9 rfl 0 rfl ?_
        refine z_callVW (pc := 10) (q0 := 0) (ci := 8) (rest := []) F (c_X8_see l E r S tp sx p2 (nI (a + c0.length)) (nI op) cd2 nm2 ht hp2) 0 ww_Model_180 (by decide +kernel) rfl (by constructor <;> (dsimp only; omega)) ⟨Nat.le_of_ble_eq_true rfl, Nat.le_of_ble_eq_true rfl⟩ rfl rfl rfl rfl (Nat.le_of_ble_eq_true rfl) dX8_readOr_10 (fun v_ w1_ hp => ?_)
        obtain ⟨rfl, rfl⟩ := hp
        show Z X (0) (0) (mw E r (mps S (nI p2) (nI (a + c0.length)) (nI op) cd2 nm2)) [(0, .ref (r 0))] 13 [.int (nI (sx p2))]
        refine z_bipush (pc := 13) (v := 124) F dX8_readOr_13 (by decide) ?_
        refine z_icmp_ne (pc := 15) (tgt := 47) F dX8_readOr_15 (by decide) (fun c15 => ?_) (fun c15 => ?_)
        · have k15 : ¬ sx p2 = 124 := fun h => c15 (by rw [h]; rfl)
          refine z_iconst (pc := 47) (v := 1) F dX8_readOr_47 (by decide) ?_
          exact z_zret (pc := 48) F hR rfl dX8_readOr_48 (Nat.le_of_ble_eq_true rfl) (Nat.le_of_ble_eq_true rfl) (by have e4 := ps_1n hl k15; subst e4; exact lp_end he1 he2 he3 hg2 hl2)
        · have k15 : sx p2 = 124 := nIe (b := 124) (by have := hsx (p2); omega) (by decide) c15
          refine z_aload_n (pc := 18) F dX8_readOr_18 rfl 0 rfl ?_
          refine z_dup (pc := 19) F dX8_readOr_19 rfl ?_
          refine z_get (pc := 20) (v := .int (nI p2)) F iX8 0 rfl rfl 35 (by decide) tw_893 rfl dX8_readOr_20 ?_
          refine z_iconst (pc := 23) (v := 1) F dX8_readOr_23 (by decide) ?_
          refine z_iadd (pc := 24) F dX8_readOr_24 ?_
          rw [show ((nI p2) + 1) = nI (p2 + 1) from (nI_1 _)]
          refine z_put (pc := 25) (ws' := mw E r (mps S (nI (p2 + 1)) (nI (a + c0.length)) (nI op) cd2 nm2)) F iX8 tyX8 tyX8_ok nmX8 0 rfl rfl 35 (by decide) tw_893 rfl rfl rfl (Nat.le_of_ble_eq_true rfl) dX8_readOr_25 rfl ?_
          refine z_aload_n (pc := 28) F dX8_readOr_28 rfl 0 rfl ?_
          obtain ⟨p3, c3, hh3⟩ := ps_1y hl k15; rcases hh3 with ⟨h3, e4⟩ | ⟨h3, R5, h5, e4⟩
          · have hlt2 : p2 < tp := sx_lt h0 (by omega)
            refine z_callVW (pc := 29) (q0 := 0) (ci := 8) (rest := []) F (pC_n (ihS k' (by omega)) h3 (by omega) (by omega) (by omega)) 0 ww_Model_226 (by decide +kernel) rfl (by constructor <;> (dsimp only; omega)) ⟨Nat.le_of_ble_eq_true rfl, Nat.le_of_ble_eq_true rfl⟩ rfl rfl rfl rfl (Nat.le_of_ble_eq_true rfl) dX8_readOr_29 (fun v_ w1_ hp => ?_)
            obtain ⟨a3, op3, cd3, nm3, rfl, rfl, h29_0⟩ := hp
            show Z X (0) (0) (mw E r (mps S (nI p3) a3 op3 cd3 nm3)) [(0, .ref (r 0))] 32 [.int 0]
            refine z_if_ne (pc := 32) (tgt := 37) F dX8_readOr_32 (by decide) (fun h => absurd h (by decide)) (fun _ => ?_)
            refine z_iconst (pc := 35) (v := 0) F dX8_readOr_35 (by decide) ?_
            exact z_zret (pc := 36) F hR rfl dX8_readOr_36 (Nat.le_of_ble_eq_true rfl) (Nat.le_of_ble_eq_true rfl) (by subst e4; exact lp_fail he1 he2 (agr_tr hg2 (by omega) h29_0))
          · have hlt2 : p2 < tp := sx_lt h0 (by omega)
            have b3 : (p2 + 1) ≤ p3 ∧ ((p2 + 1) ≤ tp → p3 ≤ tp) ∧ c3.length ≤ 2 * (p3 - (p2 + 1)) := by simpa [bnd] using ps_b h0 _ _ _ _ _ (by decide) h3
            refine z_callVW (pc := 29) (q0 := 0) (ci := 8) (rest := []) F (pC_y (ihS k' (by omega)) h3 (by omega) (by omega) (by omega)) 0 ww_Model_226 (by decide +kernel) rfl (by constructor <;> (dsimp only; omega)) ⟨Nat.le_of_ble_eq_true rfl, Nat.le_of_ble_eq_true rfl⟩ rfl rfl rfl rfl (Nat.le_of_ble_eq_true rfl) dX8_readOr_29 (fun v_ w1_ hp => ?_)
            obtain ⟨cd3, nm3, rfl, rfl, h29_0, h29_1⟩ := hp
            show Z X (0) (0) (mw E r (mps S (nI p3) (nI ((a + c0.length) + c3.length)) (nI op) cd3 nm3)) [(0, .ref (r 0))] 32 [.int 1]
            refine z_if_ne (pc := 32) (tgt := 37) F dX8_readOr_32 (by decide) (fun _ => ?_) (fun h => absurd h (by decide))
            refine z_aload_n (pc := 37) F dX8_readOr_37 rfl 0 rfl ?_
            refine z_bipush (pc := 38) (v := 20) F dX8_readOr_38 (by decide) ?_
            refine z_iconst (pc := 40) (v := 0) F dX8_readOr_40 (by decide) ?_
            refine z_callVW (pc := 41) (q0 := 0) (ci := 8) (rest := []) F (c_X8_lay l E r S p3 (nI op) cd3 nm3 nq ((a + c0.length) + c3.length) 20 0 hn6 hn3 (by omega)) 2 ww_Model_196 (by decide +kernel) rfl (by constructor <;> (dsimp only; omega)) ⟨Nat.le_of_ble_eq_true rfl, Nat.le_of_ble_eq_true rfl⟩ rfl rfl rfl rfl (Nat.le_of_ble_eq_true rfl) dX8_readOr_41 (fun v_ w1_ hp => ?_)
            obtain ⟨rfl, rfl⟩ := hp
            show Z X (0) (0) (mw E r (mps S (nI p3) (nI (((a + c0.length) + c3.length) + 1)) (nI op) (upd cd3 (240 * nq + ((a + c0.length) + c3.length)) (nI 20)) (upd nm3 (240 * nq + ((a + c0.length) + c3.length)) (nI 0)))) [(0, .ref (r 0))] 44 []
            refine z_goto (pc := 44) (tgt := 9) F dX8_readOr_44 (by decide) ?_
            subst e4; rw [show a + c0.length + c3.length + 1 = a + (c0 ++ (c3 ++ [(20, 0)])).length by simp; omega]; exact ih9 k' p3 _ _ _ R5 (by omega) (by omega) h5 he1 he2 (by rw [List.append_assoc]; exact he3) (by omega) (by simp; omega) (agr_lay (agr_tr hg2 (by omega) h29_0) (by omega)) (laid_app hl2 (agr_lay h29_0 (by omega)) (laid_lay h29_1))
    have b1 : p ≤ p1 ∧ (p ≤ tp → p1 ≤ tp) ∧ c1.length ≤ 2 * (p1 - p) := by simpa [bnd] using ps_b h0 _ _ _ _ _ (by decide) h1
    exact L9 _ n' p1 c1 cd1 nm1 R2 (Nat.lt_succ_self _) (Nat.le_refl _) h2 rfl rfl rfl (by omega) (by omega) h1_0 h1_1
set_option maxHeartbeats 4000000 in
set_option maxRecDepth 100000 in
theorem c_X8_readAnd_p (l : Launch) (E : zE) (r : Nat → Nat) (S : zS) (nq : Nat) (tp : Nat) (sx : Nat → Nat) (n : Nat) (p : Nat) (op : Nat) (a : Nat) (cd : Nat → Int32) (nm : Nat → Int32) (R : zRs) (ht : tpo S tp sx) (hn6 : nq < 6) (hn3 : zi S 3 = nI nq) (ihS : ∀ m : Nat, m < n → pC l E r S nq tp yX8_readTest cX8_readTest 3 (fun p op R => ps sx m 4 p op = some R) m) (hH : ps sx n 2 p op = some R) (hp : p ≤ tp) (ha : a ≤ 2 * p) (hop : op ≤ 12) : Ct l yX8_readAnd cX8_readAnd 1 (some .boolean) (prm n) E (mw E r (mps S (nI p) (nI a) (nI op) cd nm)) [.ref (r 0)] (fun v_ w_ => ∃ a' : Int32, ∃ op' : Int32, ∃ cd' : Nat → Int32, ∃ nm' : Nat → Int32, v_ = some (.int (bI R.1)) ∧ w_ = mw E r (mps S (nI R.2.1) a' op' cd' nm') ∧ (agr (240 * nq + a) cd nm cd' nm') ∧ (R.1 = true → a' = nI (a + R.2.2.length) ∧ op' = nI op ∧ laid cd' nm' (240 * nq + a) R.2.2)) := by
  refine Ct.of (by decide) (Nat.le_of_ble_eq_true rfl) (lv := [(0, .ref (r 0))]) rfl ?_
  intro X F hR
  have F : zF X l (prm n) E cX8_readAnd 1 "LiveQueriesModel" := F
  have htp := ht.2.1
  have hsx := ht.2.2.2.2
  have h0 := ht.2.2.2.1
  obtain ⟨n', rfl⟩ : ∃ n', n = n' + 1 := by cases n with | zero => cases hH | succ n' => exact ⟨n', rfl⟩
  obtain ⟨p1, c1, hh⟩ := ps_two (sx := sx) (r1 := ps sx n' 4 p op) (g := fun p => ps sx n' 3 p op) hH
  rcases hh with ⟨h1, rfl⟩ | ⟨h1, R2, h2, rfl⟩
  · skip
    refine z_aload_n (pc := 0) F dX8_readAnd_0 rfl 0 rfl ?_
    refine z_callVW (pc := 1) (q0 := 0) (ci := 8) (rest := []) F (pC_n (ihS n' (by omega)) h1 hp ha hop) 0 ww_Model_223 (by decide +kernel) rfl (by constructor <;> (dsimp only; omega)) ⟨Nat.le_of_ble_eq_true rfl, Nat.le_of_ble_eq_true rfl⟩ rfl rfl rfl rfl (Nat.le_of_ble_eq_true rfl) dX8_readAnd_1 (fun v_ w1_ hp => ?_)
    obtain ⟨a1, op1, cd1, nm1, rfl, rfl, h1_0⟩ := hp
    show Z X (0) (0) (mw E r (mps S (nI p1) a1 op1 cd1 nm1)) [(0, .ref (r 0))] 4 [.int 0]
    refine z_if_ne (pc := 4) (tgt := 9) F dX8_readAnd_4 (by decide) (fun h => absurd h (by decide)) (fun _ => ?_)
    refine z_iconst (pc := 7) (v := 0) F dX8_readAnd_7 (by decide) ?_
    exact z_zret (pc := 8) F hR rfl dX8_readAnd_8 (Nat.le_of_ble_eq_true rfl) (Nat.le_of_ble_eq_true rfl) (lp_fail rfl rfl h1_0)
  · skip
    refine z_aload_n (pc := 0) F dX8_readAnd_0 rfl 0 rfl ?_
    refine z_callVW (pc := 1) (q0 := 0) (ci := 8) (rest := []) F (pC_y (ihS n' (by omega)) h1 hp ha hop) 0 ww_Model_223 (by decide +kernel) rfl (by constructor <;> (dsimp only; omega)) ⟨Nat.le_of_ble_eq_true rfl, Nat.le_of_ble_eq_true rfl⟩ rfl rfl rfl rfl (Nat.le_of_ble_eq_true rfl) dX8_readAnd_1 (fun v_ w1_ hp => ?_)
    obtain ⟨cd1, nm1, rfl, rfl, h1_0, h1_1⟩ := hp
    show Z X (0) (0) (mw E r (mps S (nI p1) (nI (a + c1.length)) (nI op) cd1 nm1)) [(0, .ref (r 0))] 4 [.int 1]
    refine z_if_ne (pc := 4) (tgt := 9) F dX8_readAnd_4 (by decide) (fun _ => ?_) (fun h => absurd h (by decide))
    have L9 : ∀ (N : Nat) (k : Nat) (p2 : Nat) (c0 : List (Nat × Nat)) (cd2 : Nat → Int32) (nm2 : Nat → Int32) (R4 : zRs), k < N → (k ≤ n') → (ps sx k 3 p2 op = some R4) → (R4.1 = R2.1) → (R4.2.1 = R2.2.1) → (c0 ++ R4.2.2 = c1 ++ R2.2.2) → (p2 ≤ tp) → (a + c0.length ≤ 2 * p2) → (agr (240 * nq + a) cd nm cd2 nm2) → (laid cd2 nm2 (240 * nq + a) c0) → Z X (0) (0) (mw E r (mps S (nI p2) (nI (a + c0.length)) (nI op) cd2 nm2)) [(0, .ref (r 0))] 9 [] := by
      intro N
      induction N with
      | zero => intro k p2 c0 cd2 nm2 R4 hN; exact absurd hN (Nat.not_lt_zero _)
      | succ N ih9 =>
        intro k p2 c0 cd2 nm2 R4 hN hk hl he1 he2 he3 hp2 ha2 hg2 hl2
        obtain ⟨k', rfl⟩ : ∃ k', k = k' + 1 := by cases k with | zero => cases hl | succ k' => exact ⟨k', rfl⟩
        refine z_aload_n (pc := 9) F dX8_readAnd_9 rfl 0 rfl ?_
        refine z_callVW (pc := 10) (q0 := 0) (ci := 8) (rest := []) F (c_X8_see l E r S tp sx p2 (nI (a + c0.length)) (nI op) cd2 nm2 ht hp2) 0 ww_Model_180 (by decide +kernel) rfl (by constructor <;> (dsimp only; omega)) ⟨Nat.le_of_ble_eq_true rfl, Nat.le_of_ble_eq_true rfl⟩ rfl rfl rfl rfl (Nat.le_of_ble_eq_true rfl) dX8_readAnd_10 (fun v_ w1_ hp => ?_)
        obtain ⟨rfl, rfl⟩ := hp
        show Z X (0) (0) (mw E r (mps S (nI p2) (nI (a + c0.length)) (nI op) cd2 nm2)) [(0, .ref (r 0))] 13 [.int (nI (sx p2))]
        refine z_bipush (pc := 13) (v := 38) F dX8_readAnd_13 (by decide) ?_
        refine z_icmp_ne (pc := 15) (tgt := 47) F dX8_readAnd_15 (by decide) (fun c15 => ?_) (fun c15 => ?_)
        · have k15 : ¬ sx p2 = 38 := fun h => c15 (by rw [h]; rfl)
          refine z_iconst (pc := 47) (v := 1) F dX8_readAnd_47 (by decide) ?_
          exact z_zret (pc := 48) F hR rfl dX8_readAnd_48 (Nat.le_of_ble_eq_true rfl) (Nat.le_of_ble_eq_true rfl) (by have e4 := ps_3n hl k15; subst e4; exact lp_end he1 he2 he3 hg2 hl2)
        · have k15 : sx p2 = 38 := nIe (b := 38) (by have := hsx (p2); omega) (by decide) c15
          refine z_aload_n (pc := 18) F dX8_readAnd_18 rfl 0 rfl ?_
          refine z_dup (pc := 19) F dX8_readAnd_19 rfl ?_
          refine z_get (pc := 20) (v := .int (nI p2)) F iX8 0 rfl rfl 35 (by decide) tw_893 rfl dX8_readAnd_20 ?_
          refine z_iconst (pc := 23) (v := 1) F dX8_readAnd_23 (by decide) ?_
          refine z_iadd (pc := 24) F dX8_readAnd_24 ?_
          rw [show ((nI p2) + 1) = nI (p2 + 1) from (nI_1 _)]
          refine z_put (pc := 25) (ws' := mw E r (mps S (nI (p2 + 1)) (nI (a + c0.length)) (nI op) cd2 nm2)) F iX8 tyX8 tyX8_ok nmX8 0 rfl rfl 35 (by decide) tw_893 rfl rfl rfl (Nat.le_of_ble_eq_true rfl) dX8_readAnd_25 rfl ?_
          refine z_aload_n (pc := 28) F dX8_readAnd_28 rfl 0 rfl ?_
          obtain ⟨p3, c3, hh3⟩ := ps_3y hl k15; rcases hh3 with ⟨h3, e4⟩ | ⟨h3, R5, h5, e4⟩
          · have hlt2 : p2 < tp := sx_lt h0 (by omega)
            refine z_callVW (pc := 29) (q0 := 0) (ci := 8) (rest := []) F (pC_n (ihS k' (by omega)) h3 (by omega) (by omega) (by omega)) 0 ww_Model_223 (by decide +kernel) rfl (by constructor <;> (dsimp only; omega)) ⟨Nat.le_of_ble_eq_true rfl, Nat.le_of_ble_eq_true rfl⟩ rfl rfl rfl rfl (Nat.le_of_ble_eq_true rfl) dX8_readAnd_29 (fun v_ w1_ hp => ?_)
            obtain ⟨a3, op3, cd3, nm3, rfl, rfl, h29_0⟩ := hp
            show Z X (0) (0) (mw E r (mps S (nI p3) a3 op3 cd3 nm3)) [(0, .ref (r 0))] 32 [.int 0]
            refine z_if_ne (pc := 32) (tgt := 37) F dX8_readAnd_32 (by decide) (fun h => absurd h (by decide)) (fun _ => ?_)
            refine z_iconst (pc := 35) (v := 0) F dX8_readAnd_35 (by decide) ?_
            exact z_zret (pc := 36) F hR rfl dX8_readAnd_36 (Nat.le_of_ble_eq_true rfl) (Nat.le_of_ble_eq_true rfl) (by subst e4; exact lp_fail he1 he2 (agr_tr hg2 (by omega) h29_0))
          · have hlt2 : p2 < tp := sx_lt h0 (by omega)
            have b3 : (p2 + 1) ≤ p3 ∧ ((p2 + 1) ≤ tp → p3 ≤ tp) ∧ c3.length ≤ 2 * (p3 - (p2 + 1)) := by simpa [bnd] using ps_b h0 _ _ _ _ _ (by decide) h3
            refine z_callVW (pc := 29) (q0 := 0) (ci := 8) (rest := []) F (pC_y (ihS k' (by omega)) h3 (by omega) (by omega) (by omega)) 0 ww_Model_223 (by decide +kernel) rfl (by constructor <;> (dsimp only; omega)) ⟨Nat.le_of_ble_eq_true rfl, Nat.le_of_ble_eq_true rfl⟩ rfl rfl rfl rfl (Nat.le_of_ble_eq_true rfl) dX8_readAnd_29 (fun v_ w1_ hp => ?_)
            obtain ⟨cd3, nm3, rfl, rfl, h29_0, h29_1⟩ := hp
            show Z X (0) (0) (mw E r (mps S (nI p3) (nI ((a + c0.length) + c3.length)) (nI op) cd3 nm3)) [(0, .ref (r 0))] 32 [.int 1]
            refine z_if_ne (pc := 32) (tgt := 37) F dX8_readAnd_32 (by decide) (fun _ => ?_) (fun h => absurd h (by decide))
            refine z_aload_n (pc := 37) F dX8_readAnd_37 rfl 0 rfl ?_
            refine z_bipush (pc := 38) (v := 19) F dX8_readAnd_38 (by decide) ?_
            refine z_iconst (pc := 40) (v := 0) F dX8_readAnd_40 (by decide) ?_
            refine z_callVW (pc := 41) (q0 := 0) (ci := 8) (rest := []) F (c_X8_lay l E r S p3 (nI op) cd3 nm3 nq ((a + c0.length) + c3.length) 19 0 hn6 hn3 (by omega)) 2 ww_Model_196 (by decide +kernel) rfl (by constructor <;> (dsimp only; omega)) ⟨Nat.le_of_ble_eq_true rfl, Nat.le_of_ble_eq_true rfl⟩ rfl rfl rfl rfl (Nat.le_of_ble_eq_true rfl) dX8_readAnd_41 (fun v_ w1_ hp => ?_)
            obtain ⟨rfl, rfl⟩ := hp
            show Z X (0) (0) (mw E r (mps S (nI p3) (nI (((a + c0.length) + c3.length) + 1)) (nI op) (upd cd3 (240 * nq + ((a + c0.length) + c3.length)) (nI 19)) (upd nm3 (240 * nq + ((a + c0.length) + c3.length)) (nI 0)))) [(0, .ref (r 0))] 44 []
            refine z_goto (pc := 44) (tgt := 9) F dX8_readAnd_44 (by decide) ?_
            subst e4; rw [show a + c0.length + c3.length + 1 = a + (c0 ++ (c3 ++ [(19, 0)])).length by simp; omega]; exact ih9 k' p3 _ _ _ R5 (by omega) (by omega) h5 he1 he2 (by rw [List.append_assoc]; exact he3) (by omega) (by simp; omega) (agr_lay (agr_tr hg2 (by omega) h29_0) (by omega)) (laid_app hl2 (agr_lay h29_0 (by omega)) (laid_lay h29_1))
    have b1 : p ≤ p1 ∧ (p ≤ tp → p1 ≤ tp) ∧ c1.length ≤ 2 * (p1 - p) := by simpa [bnd] using ps_b h0 _ _ _ _ _ (by decide) h1
    exact L9 _ n' p1 c1 cd1 nm1 R2 (Nat.lt_succ_self _) (Nat.le_refl _) h2 rfl rfl rfl (by omega) (by omega) h1_0 h1_1
set_option maxHeartbeats 4000000 in
set_option maxRecDepth 100000 in
theorem c_X8_readX_p (l : Launch) (E : zE) (r : Nat → Nat) (S : zS) (nq : Nat) (tp : Nat) (sx : Nat → Nat) (n : Nat) (p : Nat) (op : Nat) (a : Nat) (cd : Nat → Int32) (nm : Nat → Int32) (R : zRs) (ht : tpo S tp sx) (hn6 : nq < 6) (hn3 : zi S 3 = nI nq) (ihS : ∀ m : Nat, m < n → pC l E r S nq tp yX8_readTerm cX8_readTerm 2 (fun p op R => ps sx m 7 p op = some R) m) (hH : ps sx n 5 p op = some R) (hp : p ≤ tp) (ha : a ≤ 2 * p) (hop : op ≤ 12) : Ct l yX8_readX cX8_readX 2 (some .boolean) (prm n) E (mw E r (mps S (nI p) (nI a) (nI op) cd nm)) [.ref (r 0)] (fun v_ w_ => ∃ a' : Int32, ∃ op' : Int32, ∃ cd' : Nat → Int32, ∃ nm' : Nat → Int32, v_ = some (.int (bI R.1)) ∧ w_ = mw E r (mps S (nI R.2.1) a' op' cd' nm') ∧ (agr (240 * nq + a) cd nm cd' nm') ∧ (R.1 = true → a' = nI (a + R.2.2.length) ∧ op' = nI op ∧ laid cd' nm' (240 * nq + a) R.2.2)) := by
  refine Ct.of (by decide) (Nat.le_of_ble_eq_true rfl) (lv := [(0, .ref (r 0))]) rfl ?_
  intro X F hR
  have F : zF X l (prm n) E cX8_readX 2 "LiveQueriesModel" := F
  have htp := ht.2.1
  have hsx := ht.2.2.2.2
  have h0 := ht.2.2.2.1
  obtain ⟨n', rfl⟩ : ∃ n', n = n' + 1 := by cases n with | zero => cases hH | succ n' => exact ⟨n', rfl⟩
  obtain ⟨p1, c1, hh⟩ := ps_two (sx := sx) (r1 := ps sx n' 7 p op) (g := fun p => ps sx n' 6 p op) hH
  rcases hh with ⟨h1, rfl⟩ | ⟨h1, R2, h2, rfl⟩
  · skip
    refine z_aload_n (pc := 0) F dX8_readX_0 rfl 0 rfl ?_
    refine z_callVW (pc := 1) (q0 := 0) (ci := 8) (rest := []) F (pC_n (ihS n' (by omega)) h1 hp ha hop) 0 ww_Model_217 (by decide +kernel) rfl (by constructor <;> (dsimp only; omega)) ⟨Nat.le_of_ble_eq_true rfl, Nat.le_of_ble_eq_true rfl⟩ rfl rfl rfl rfl (Nat.le_of_ble_eq_true rfl) dX8_readX_1 (fun v_ w1_ hp => ?_)
    obtain ⟨a1, op1, cd1, nm1, rfl, rfl, h1_0⟩ := hp
    show Z X (0) (0) (mw E r (mps S (nI p1) a1 op1 cd1 nm1)) [(0, .ref (r 0))] 4 [.int 0]
    refine z_if_ne (pc := 4) (tgt := 9) F dX8_readX_4 (by decide) (fun h => absurd h (by decide)) (fun _ => ?_)
    refine z_iconst (pc := 7) (v := 0) F dX8_readX_7 (by decide) ?_
    exact z_zret (pc := 8) F hR rfl dX8_readX_8 (Nat.le_of_ble_eq_true rfl) (Nat.le_of_ble_eq_true rfl) (lp_fail rfl rfl h1_0)
  · skip
    refine z_aload_n (pc := 0) F dX8_readX_0 rfl 0 rfl ?_
    refine z_callVW (pc := 1) (q0 := 0) (ci := 8) (rest := []) F (pC_y (ihS n' (by omega)) h1 hp ha hop) 0 ww_Model_217 (by decide +kernel) rfl (by constructor <;> (dsimp only; omega)) ⟨Nat.le_of_ble_eq_true rfl, Nat.le_of_ble_eq_true rfl⟩ rfl rfl rfl rfl (Nat.le_of_ble_eq_true rfl) dX8_readX_1 (fun v_ w1_ hp => ?_)
    obtain ⟨cd1, nm1, rfl, rfl, h1_0, h1_1⟩ := hp
    show Z X (0) (0) (mw E r (mps S (nI p1) (nI (a + c1.length)) (nI op) cd1 nm1)) [(0, .ref (r 0))] 4 [.int 1]
    refine z_if_ne (pc := 4) (tgt := 9) F dX8_readX_4 (by decide) (fun _ => ?_) (fun h => absurd h (by decide))
    have L9 : ∀ (N : Nat) (k : Nat) (p2 : Nat) (c0 : List (Nat × Nat)) (cd2 : Nat → Int32) (nm2 : Nat → Int32) (R4 : zRs), k < N → (k ≤ n') → (ps sx k 6 p2 op = some R4) → (R4.1 = R2.1) → (R4.2.1 = R2.2.1) → (c0 ++ R4.2.2 = c1 ++ R2.2.2) → (p2 ≤ tp) → (a + c0.length ≤ 2 * p2) → (agr (240 * nq + a) cd nm cd2 nm2) → (laid cd2 nm2 (240 * nq + a) c0) → Z X (0) (0) (mw E r (mps S (nI p2) (nI (a + c0.length)) (nI op) cd2 nm2)) [(0, .ref (r 0))] 9 [] := by
      intro N
      induction N with
      | zero => intro k p2 c0 cd2 nm2 R4 hN; exact absurd hN (Nat.not_lt_zero _)
      | succ N ih9 =>
        intro k p2 c0 cd2 nm2 R4 hN hk hl he1 he2 he3 hp2 ha2 hg2 hl2
        obtain ⟨k', rfl⟩ : ∃ k', k = k' + 1 := by cases k with | zero => cases hl | succ k' => exact ⟨k', rfl⟩
        refine z_aload_n (pc := 9) F dX8_readX_9 rfl 0 rfl ?_
        refine z_callVW (pc := 10) (q0 := 0) (ci := 8) (rest := []) F (c_X8_see l E r S tp sx p2 (nI (a + c0.length)) (nI op) cd2 nm2 ht hp2) 0 ww_Model_180 (by decide +kernel) rfl (by constructor <;> (dsimp only; omega)) ⟨Nat.le_of_ble_eq_true rfl, Nat.le_of_ble_eq_true rfl⟩ rfl rfl rfl rfl (Nat.le_of_ble_eq_true rfl) dX8_readX_10 (fun v_ w1_ hp => ?_)
        obtain ⟨rfl, rfl⟩ := hp
        show Z X (0) (0) (mw E r (mps S (nI p2) (nI (a + c0.length)) (nI op) cd2 nm2)) [(0, .ref (r 0))] 13 [.int (nI (sx p2))]
        refine z_bipush (pc := 13) (v := 43) F dX8_readX_13 (by decide) ?_
        refine z_icmp_eq (pc := 15) (tgt := 27) F dX8_readX_15 (by decide) (fun c15 => ?_) (fun c15 => ?_)
        · have k15 : sx p2 = 43 := nIe (b := 43) (by have := hsx (p2); omega) (by decide) c15
          refine z_aload_n (pc := 27) F dX8_readX_27 rfl 0 rfl ?_
          refine z_callVW (pc := 28) (q0 := 0) (ci := 8) (rest := []) F (c_X8_see l E r S tp sx p2 (nI (a + c0.length)) (nI op) cd2 nm2 ht hp2) 0 ww_Model_180 (by decide +kernel) rfl (by constructor <;> (dsimp only; omega)) ⟨Nat.le_of_ble_eq_true rfl, Nat.le_of_ble_eq_true rfl⟩ rfl rfl rfl rfl (Nat.le_of_ble_eq_true rfl) dX8_readX_28 (fun v_ w1_ hp => ?_)
          obtain ⟨rfl, rfl⟩ := hp
          show Z X (0) (0) (mw E r (mps S (nI p2) (nI (a + c0.length)) (nI op) cd2 nm2)) [(0, .ref (r 0))] 31 [.int (nI (sx p2))]
          refine z_bipush (pc := 31) (v := 43) F dX8_readX_31 (by decide) ?_
          refine z_icmp_ne (pc := 33) (tgt := 41) F dX8_readX_33 (by decide) (fun c33 => absurd c33 (fun h => h (by rw [k15]; rfl))) (fun c33 => ?_)
          refine z_bipush (pc := 36) (v := 10) F dX8_readX_36 (by decide) ?_
          refine z_goto (pc := 38) (tgt := 43) F dX8_readX_38 (by decide) ?_
          refine z_istore_n (pc := 43) (lv' := [(0, .ref (r 0)), (1, .int 10)]) F dX8_readX_43 rfl (by decide) [1, 0] rfl ?_
          refine z_aload_n (pc := 44) F dX8_readX_44 rfl 0 rfl ?_
          refine z_dup (pc := 45) F dX8_readX_45 rfl ?_
          refine z_get (pc := 46) (v := .int (nI p2)) F iX8 0 rfl rfl 35 (by decide) tw_893 rfl dX8_readX_46 ?_
          refine z_iconst (pc := 49) (v := 1) F dX8_readX_49 (by decide) ?_
          refine z_iadd (pc := 50) F dX8_readX_50 ?_
          rw [show ((nI p2) + 1) = nI (p2 + 1) from (nI_1 _)]
          refine z_put (pc := 51) (ws' := mw E r (mps S (nI (p2 + 1)) (nI (a + c0.length)) (nI op) cd2 nm2)) F iX8 tyX8 tyX8_ok nmX8 0 rfl rfl 35 (by decide) tw_893 rfl rfl rfl (Nat.le_of_ble_eq_true rfl) dX8_readX_51 rfl ?_
          refine z_aload_n (pc := 54) F dX8_readX_54 rfl 0 rfl ?_
          obtain ⟨p3, c3, hh3⟩ := ps_6y hl (by omega); rcases hh3 with ⟨h3, e4⟩ | ⟨h3, R5, h5, e4⟩
          · have hlt2 : p2 < tp := sx_lt h0 (by omega)
            refine z_callVW (pc := 55) (q0 := 0) (ci := 8) (rest := []) F (pC_n (ihS k' (by omega)) h3 (by omega) (by omega) (by omega)) 0 ww_Model_217 (by decide +kernel) rfl (by constructor <;> (dsimp only; omega)) ⟨Nat.le_of_ble_eq_true rfl, Nat.le_of_ble_eq_true rfl⟩ rfl rfl rfl rfl (Nat.le_of_ble_eq_true rfl) dX8_readX_55 (fun v_ w1_ hp => ?_)
            obtain ⟨a3, op3, cd3, nm3, rfl, rfl, h55_0⟩ := hp
            show Z X (0) (0) (mw E r (mps S (nI p3) a3 op3 cd3 nm3)) [(0, .ref (r 0)), (1, .int 10)] 58 [.int 0]
            refine z_if_ne (pc := 58) (tgt := 63) F dX8_readX_58 (by decide) (fun h => absurd h (by decide)) (fun _ => ?_)
            refine z_iconst (pc := 61) (v := 0) F dX8_readX_61 (by decide) ?_
            exact z_zret (pc := 62) F hR rfl dX8_readX_62 (Nat.le_of_ble_eq_true rfl) (Nat.le_of_ble_eq_true rfl) (by subst e4; exact lp_fail he1 he2 (agr_tr hg2 (by omega) h55_0))
          · have hlt2 : p2 < tp := sx_lt h0 (by omega)
            have b3 : (p2 + 1) ≤ p3 ∧ ((p2 + 1) ≤ tp → p3 ≤ tp) ∧ c3.length ≤ 2 * (p3 - (p2 + 1)) := by simpa [bnd] using ps_b h0 _ _ _ _ _ (by decide) h3
            refine z_callVW (pc := 55) (q0 := 0) (ci := 8) (rest := []) F (pC_y (ihS k' (by omega)) h3 (by omega) (by omega) (by omega)) 0 ww_Model_217 (by decide +kernel) rfl (by constructor <;> (dsimp only; omega)) ⟨Nat.le_of_ble_eq_true rfl, Nat.le_of_ble_eq_true rfl⟩ rfl rfl rfl rfl (Nat.le_of_ble_eq_true rfl) dX8_readX_55 (fun v_ w1_ hp => ?_)
            obtain ⟨cd3, nm3, rfl, rfl, h55_0, h55_1⟩ := hp
            show Z X (0) (0) (mw E r (mps S (nI p3) (nI ((a + c0.length) + c3.length)) (nI op) cd3 nm3)) [(0, .ref (r 0)), (1, .int 10)] 58 [.int 1]
            refine z_if_ne (pc := 58) (tgt := 63) F dX8_readX_58 (by decide) (fun _ => ?_) (fun h => absurd h (by decide))
            refine z_aload_n (pc := 63) F dX8_readX_63 rfl 0 rfl ?_
            refine z_iload_n (pc := 64) F dX8_readX_64 rfl 1 rfl ?_
            refine z_iconst (pc := 65) (v := 0) F dX8_readX_65 (by decide) ?_
            refine z_callVW (pc := 66) (q0 := 0) (ci := 8) (rest := []) F (c_X8_lay l E r S p3 (nI op) cd3 nm3 nq ((a + c0.length) + c3.length) 10 0 hn6 hn3 (by omega)) 2 ww_Model_196 (by decide +kernel) rfl (by constructor <;> (dsimp only; omega)) ⟨Nat.le_of_ble_eq_true rfl, Nat.le_of_ble_eq_true rfl⟩ rfl rfl rfl rfl (Nat.le_of_ble_eq_true rfl) dX8_readX_66 (fun v_ w1_ hp => ?_)
            obtain ⟨rfl, rfl⟩ := hp
            show Z X (0) (0) (mw E r (mps S (nI p3) (nI (((a + c0.length) + c3.length) + 1)) (nI op) (upd cd3 (240 * nq + ((a + c0.length) + c3.length)) (nI 10)) (upd nm3 (240 * nq + ((a + c0.length) + c3.length)) (nI 0)))) [(0, .ref (r 0)), (1, .int 10)] 69 []
            refine z_goto (pc := 69) (tgt := 9) F dX8_readX_69 (by decide) ?_
            refine z_locals (lv' := [(0, .ref (r 0))]) [0] rfl ?_
            subst e4; rw [show addO (sx p2) = 10 by simp [addO, k15]] at he3; rw [show a + c0.length + c3.length + 1 = a + (c0 ++ (c3 ++ [(10, 0)])).length by simp; omega]; exact ih9 k' p3 _ _ _ R5 (by omega) (by omega) h5 he1 he2 (by rw [List.append_assoc]; exact he3) (by omega) (by simp; omega) (agr_lay (agr_tr hg2 (by omega) h55_0) (by omega)) (laid_app hl2 (agr_lay h55_0 (by omega)) (laid_lay h55_1))
        · have k15 : ¬ sx p2 = 43 := fun h => c15 (by rw [h]; rfl)
          refine z_aload_n (pc := 18) F dX8_readX_18 rfl 0 rfl ?_
          refine z_callVW (pc := 19) (q0 := 0) (ci := 8) (rest := []) F (c_X8_see l E r S tp sx p2 (nI (a + c0.length)) (nI op) cd2 nm2 ht hp2) 0 ww_Model_180 (by decide +kernel) rfl (by constructor <;> (dsimp only; omega)) ⟨Nat.le_of_ble_eq_true rfl, Nat.le_of_ble_eq_true rfl⟩ rfl rfl rfl rfl (Nat.le_of_ble_eq_true rfl) dX8_readX_19 (fun v_ w1_ hp => ?_)
          obtain ⟨rfl, rfl⟩ := hp
          show Z X (0) (0) (mw E r (mps S (nI p2) (nI (a + c0.length)) (nI op) cd2 nm2)) [(0, .ref (r 0))] 22 [.int (nI (sx p2))]
          refine z_bipush (pc := 22) (v := 45) F dX8_readX_22 (by decide) ?_
          refine z_icmp_ne (pc := 24) (tgt := 72) F dX8_readX_24 (by decide) (fun c24 => ?_) (fun c24 => ?_)
          · have k24 : ¬ sx p2 = 45 := fun h => c24 (by rw [h]; rfl)
            refine z_iconst (pc := 72) (v := 1) F dX8_readX_72 (by decide) ?_
            exact z_zret (pc := 73) F hR rfl dX8_readX_73 (Nat.le_of_ble_eq_true rfl) (Nat.le_of_ble_eq_true rfl) (by have e4 := ps_6n hl (by omega); subst e4; exact lp_end he1 he2 he3 hg2 hl2)
          · have k24 : sx p2 = 45 := nIe (b := 45) (by have := hsx (p2); omega) (by decide) c24
            refine z_aload_n (pc := 27) F dX8_readX_27 rfl 0 rfl ?_
            refine z_callVW (pc := 28) (q0 := 0) (ci := 8) (rest := []) F (c_X8_see l E r S tp sx p2 (nI (a + c0.length)) (nI op) cd2 nm2 ht hp2) 0 ww_Model_180 (by decide +kernel) rfl (by constructor <;> (dsimp only; omega)) ⟨Nat.le_of_ble_eq_true rfl, Nat.le_of_ble_eq_true rfl⟩ rfl rfl rfl rfl (Nat.le_of_ble_eq_true rfl) dX8_readX_28 (fun v_ w1_ hp => ?_)
            obtain ⟨rfl, rfl⟩ := hp
            show Z X (0) (0) (mw E r (mps S (nI p2) (nI (a + c0.length)) (nI op) cd2 nm2)) [(0, .ref (r 0))] 31 [.int (nI (sx p2))]
            refine z_bipush (pc := 31) (v := 43) F dX8_readX_31 (by decide) ?_
            refine z_icmp_ne (pc := 33) (tgt := 41) F dX8_readX_33 (by decide) (fun c33 => ?_) (fun c33 => absurd c33 (fun h => k15 (nIe (b := 43) (by have := hsx p2; omega) (by decide) h)))
            refine z_bipush (pc := 41) (v := 11) F dX8_readX_41 (by decide) ?_
            refine z_istore_n (pc := 43) (lv' := [(0, .ref (r 0)), (1, .int 11)]) F dX8_readX_43 rfl (by decide) [1, 0] rfl ?_
            refine z_aload_n (pc := 44) F dX8_readX_44 rfl 0 rfl ?_
            refine z_dup (pc := 45) F dX8_readX_45 rfl ?_
            refine z_get (pc := 46) (v := .int (nI p2)) F iX8 0 rfl rfl 35 (by decide) tw_893 rfl dX8_readX_46 ?_
            refine z_iconst (pc := 49) (v := 1) F dX8_readX_49 (by decide) ?_
            refine z_iadd (pc := 50) F dX8_readX_50 ?_
            rw [show ((nI p2) + 1) = nI (p2 + 1) from (nI_1 _)]
            refine z_put (pc := 51) (ws' := mw E r (mps S (nI (p2 + 1)) (nI (a + c0.length)) (nI op) cd2 nm2)) F iX8 tyX8 tyX8_ok nmX8 0 rfl rfl 35 (by decide) tw_893 rfl rfl rfl (Nat.le_of_ble_eq_true rfl) dX8_readX_51 rfl ?_
            refine z_aload_n (pc := 54) F dX8_readX_54 rfl 0 rfl ?_
            obtain ⟨p3, c3, hh3⟩ := ps_6y hl (by omega); rcases hh3 with ⟨h3, e4⟩ | ⟨h3, R5, h5, e4⟩
            · have hlt2 : p2 < tp := sx_lt h0 (by omega)
              refine z_callVW (pc := 55) (q0 := 0) (ci := 8) (rest := []) F (pC_n (ihS k' (by omega)) h3 (by omega) (by omega) (by omega)) 0 ww_Model_217 (by decide +kernel) rfl (by constructor <;> (dsimp only; omega)) ⟨Nat.le_of_ble_eq_true rfl, Nat.le_of_ble_eq_true rfl⟩ rfl rfl rfl rfl (Nat.le_of_ble_eq_true rfl) dX8_readX_55 (fun v_ w1_ hp => ?_)
              obtain ⟨a3, op3, cd3, nm3, rfl, rfl, h55_0⟩ := hp
              show Z X (0) (0) (mw E r (mps S (nI p3) a3 op3 cd3 nm3)) [(0, .ref (r 0)), (1, .int 11)] 58 [.int 0]
              refine z_if_ne (pc := 58) (tgt := 63) F dX8_readX_58 (by decide) (fun h => absurd h (by decide)) (fun _ => ?_)
              refine z_iconst (pc := 61) (v := 0) F dX8_readX_61 (by decide) ?_
              exact z_zret (pc := 62) F hR rfl dX8_readX_62 (Nat.le_of_ble_eq_true rfl) (Nat.le_of_ble_eq_true rfl) (by subst e4; exact lp_fail he1 he2 (agr_tr hg2 (by omega) h55_0))
            · have hlt2 : p2 < tp := sx_lt h0 (by omega)
              have b3 : (p2 + 1) ≤ p3 ∧ ((p2 + 1) ≤ tp → p3 ≤ tp) ∧ c3.length ≤ 2 * (p3 - (p2 + 1)) := by simpa [bnd] using ps_b h0 _ _ _ _ _ (by decide) h3
              refine z_callVW (pc := 55) (q0 := 0) (ci := 8) (rest := []) F (pC_y (ihS k' (by omega)) h3 (by omega) (by omega) (by omega)) 0 ww_Model_217 (by decide +kernel) rfl (by constructor <;> (dsimp only; omega)) ⟨Nat.le_of_ble_eq_true rfl, Nat.le_of_ble_eq_true rfl⟩ rfl rfl rfl rfl (Nat.le_of_ble_eq_true rfl) dX8_readX_55 (fun v_ w1_ hp => ?_)
              obtain ⟨cd3, nm3, rfl, rfl, h55_0, h55_1⟩ := hp
              show Z X (0) (0) (mw E r (mps S (nI p3) (nI ((a + c0.length) + c3.length)) (nI op) cd3 nm3)) [(0, .ref (r 0)), (1, .int 11)] 58 [.int 1]
              refine z_if_ne (pc := 58) (tgt := 63) F dX8_readX_58 (by decide) (fun _ => ?_) (fun h => absurd h (by decide))
              refine z_aload_n (pc := 63) F dX8_readX_63 rfl 0 rfl ?_
              refine z_iload_n (pc := 64) F dX8_readX_64 rfl 1 rfl ?_
              refine z_iconst (pc := 65) (v := 0) F dX8_readX_65 (by decide) ?_
              refine z_callVW (pc := 66) (q0 := 0) (ci := 8) (rest := []) F (c_X8_lay l E r S p3 (nI op) cd3 nm3 nq ((a + c0.length) + c3.length) 11 0 hn6 hn3 (by omega)) 2 ww_Model_196 (by decide +kernel) rfl (by constructor <;> (dsimp only; omega)) ⟨Nat.le_of_ble_eq_true rfl, Nat.le_of_ble_eq_true rfl⟩ rfl rfl rfl rfl (Nat.le_of_ble_eq_true rfl) dX8_readX_66 (fun v_ w1_ hp => ?_)
              obtain ⟨rfl, rfl⟩ := hp
              show Z X (0) (0) (mw E r (mps S (nI p3) (nI (((a + c0.length) + c3.length) + 1)) (nI op) (upd cd3 (240 * nq + ((a + c0.length) + c3.length)) (nI 11)) (upd nm3 (240 * nq + ((a + c0.length) + c3.length)) (nI 0)))) [(0, .ref (r 0)), (1, .int 11)] 69 []
              refine z_goto (pc := 69) (tgt := 9) F dX8_readX_69 (by decide) ?_
              refine z_locals (lv' := [(0, .ref (r 0))]) [0] rfl ?_
              subst e4; rw [show addO (sx p2) = 11 by simp [addO, k24]] at he3; rw [show a + c0.length + c3.length + 1 = a + (c0 ++ (c3 ++ [(11, 0)])).length by simp; omega]; exact ih9 k' p3 _ _ _ R5 (by omega) (by omega) h5 he1 he2 (by rw [List.append_assoc]; exact he3) (by omega) (by simp; omega) (agr_lay (agr_tr hg2 (by omega) h55_0) (by omega)) (laid_app hl2 (agr_lay h55_0 (by omega)) (laid_lay h55_1))
    have b1 : p ≤ p1 ∧ (p ≤ tp → p1 ≤ tp) ∧ c1.length ≤ 2 * (p1 - p) := by simpa [bnd] using ps_b h0 _ _ _ _ _ (by decide) h1
    exact L9 _ n' p1 c1 cd1 nm1 R2 (Nat.lt_succ_self _) (Nat.le_refl _) h2 rfl rfl rfl (by omega) (by omega) h1_0 h1_1
set_option maxHeartbeats 4000000 in
set_option maxRecDepth 100000 in
theorem c_X8_readTerm_p (l : Launch) (E : zE) (r : Nat → Nat) (S : zS) (nq : Nat) (tp : Nat) (sx : Nat → Nat) (n : Nat) (p : Nat) (op : Nat) (a : Nat) (cd : Nat → Int32) (nm : Nat → Int32) (R : zRs) (ht : tpo S tp sx) (hn6 : nq < 6) (hn3 : zi S 3 = nI nq) (ihS : ∀ m : Nat, m < n → pC l E r S nq tp yX8_readFactor cX8_readFactor 3 (fun p op R => ps sx m 9 p op = some R) m) (hH : ps sx n 7 p op = some R) (hp : p ≤ tp) (ha : a ≤ 2 * p) (hop : op ≤ 12) : Ct l yX8_readTerm cX8_readTerm 2 (some .boolean) (prm n) E (mw E r (mps S (nI p) (nI a) (nI op) cd nm)) [.ref (r 0)] (fun v_ w_ => ∃ a' : Int32, ∃ op' : Int32, ∃ cd' : Nat → Int32, ∃ nm' : Nat → Int32, v_ = some (.int (bI R.1)) ∧ w_ = mw E r (mps S (nI R.2.1) a' op' cd' nm') ∧ (agr (240 * nq + a) cd nm cd' nm') ∧ (R.1 = true → a' = nI (a + R.2.2.length) ∧ op' = nI op ∧ laid cd' nm' (240 * nq + a) R.2.2)) := by
  refine Ct.of (by decide) (Nat.le_of_ble_eq_true rfl) (lv := [(0, .ref (r 0))]) rfl ?_
  intro X F hR
  have F : zF X l (prm n) E cX8_readTerm 2 "LiveQueriesModel" := F
  have htp := ht.2.1
  have hsx := ht.2.2.2.2
  have h0 := ht.2.2.2.1
  obtain ⟨n', rfl⟩ : ∃ n', n = n' + 1 := by cases n with | zero => cases hH | succ n' => exact ⟨n', rfl⟩
  obtain ⟨p1, c1, hh⟩ := ps_two (sx := sx) (r1 := ps sx n' 9 p op) (g := fun p => ps sx n' 8 p op) hH
  rcases hh with ⟨h1, rfl⟩ | ⟨h1, R2, h2, rfl⟩
  · skip
    refine z_aload_n (pc := 0) F dX8_readTerm_0 rfl 0 rfl ?_
    refine z_callVW (pc := 1) (q0 := 0) (ci := 8) (rest := []) F (pC_n (ihS n' (by omega)) h1 hp ha hop) 0 ww_Model_214 (by decide +kernel) rfl (by constructor <;> (dsimp only; omega)) ⟨Nat.le_of_ble_eq_true rfl, Nat.le_of_ble_eq_true rfl⟩ rfl rfl rfl rfl (Nat.le_of_ble_eq_true rfl) dX8_readTerm_1 (fun v_ w1_ hp => ?_)
    obtain ⟨a1, op1, cd1, nm1, rfl, rfl, h1_0⟩ := hp
    show Z X (0) (0) (mw E r (mps S (nI p1) a1 op1 cd1 nm1)) [(0, .ref (r 0))] 4 [.int 0]
    refine z_if_ne (pc := 4) (tgt := 9) F dX8_readTerm_4 (by decide) (fun h => absurd h (by decide)) (fun _ => ?_)
    refine z_iconst (pc := 7) (v := 0) F dX8_readTerm_7 (by decide) ?_
    exact z_zret (pc := 8) F hR rfl dX8_readTerm_8 (Nat.le_of_ble_eq_true rfl) (Nat.le_of_ble_eq_true rfl) (lp_fail rfl rfl h1_0)
  · skip
    refine z_aload_n (pc := 0) F dX8_readTerm_0 rfl 0 rfl ?_
    refine z_callVW (pc := 1) (q0 := 0) (ci := 8) (rest := []) F (pC_y (ihS n' (by omega)) h1 hp ha hop) 0 ww_Model_214 (by decide +kernel) rfl (by constructor <;> (dsimp only; omega)) ⟨Nat.le_of_ble_eq_true rfl, Nat.le_of_ble_eq_true rfl⟩ rfl rfl rfl rfl (Nat.le_of_ble_eq_true rfl) dX8_readTerm_1 (fun v_ w1_ hp => ?_)
    obtain ⟨cd1, nm1, rfl, rfl, h1_0, h1_1⟩ := hp
    show Z X (0) (0) (mw E r (mps S (nI p1) (nI (a + c1.length)) (nI op) cd1 nm1)) [(0, .ref (r 0))] 4 [.int 1]
    refine z_if_ne (pc := 4) (tgt := 9) F dX8_readTerm_4 (by decide) (fun _ => ?_) (fun h => absurd h (by decide))
    have L9 : ∀ (N : Nat) (k : Nat) (p2 : Nat) (c0 : List (Nat × Nat)) (cd2 : Nat → Int32) (nm2 : Nat → Int32) (R4 : zRs), k < N → (k ≤ n') → (ps sx k 8 p2 op = some R4) → (R4.1 = R2.1) → (R4.2.1 = R2.2.1) → (c0 ++ R4.2.2 = c1 ++ R2.2.2) → (p2 ≤ tp) → (a + c0.length ≤ 2 * p2) → (agr (240 * nq + a) cd nm cd2 nm2) → (laid cd2 nm2 (240 * nq + a) c0) → Z X (0) (0) (mw E r (mps S (nI p2) (nI (a + c0.length)) (nI op) cd2 nm2)) [(0, .ref (r 0))] 9 [] := by
      intro N
      induction N with
      | zero => intro k p2 c0 cd2 nm2 R4 hN; exact absurd hN (Nat.not_lt_zero _)
      | succ N ih9 =>
        intro k p2 c0 cd2 nm2 R4 hN hk hl he1 he2 he3 hp2 ha2 hg2 hl2
        obtain ⟨k', rfl⟩ : ∃ k', k = k' + 1 := by cases k with | zero => cases hl | succ k' => exact ⟨k', rfl⟩
        refine z_aload_n (pc := 9) F dX8_readTerm_9 rfl 0 rfl ?_
        refine z_callVW (pc := 10) (q0 := 0) (ci := 8) (rest := []) F (c_X8_see l E r S tp sx p2 (nI (a + c0.length)) (nI op) cd2 nm2 ht hp2) 0 ww_Model_180 (by decide +kernel) rfl (by constructor <;> (dsimp only; omega)) ⟨Nat.le_of_ble_eq_true rfl, Nat.le_of_ble_eq_true rfl⟩ rfl rfl rfl rfl (Nat.le_of_ble_eq_true rfl) dX8_readTerm_10 (fun v_ w1_ hp => ?_)
        obtain ⟨rfl, rfl⟩ := hp
        show Z X (0) (0) (mw E r (mps S (nI p2) (nI (a + c0.length)) (nI op) cd2 nm2)) [(0, .ref (r 0))] 13 [.int (nI (sx p2))]
        refine z_bipush (pc := 13) (v := 42) F dX8_readTerm_13 (by decide) ?_
        refine z_icmp_eq (pc := 15) (tgt := 36) F dX8_readTerm_15 (by decide) (fun c15 => ?_) (fun c15 => ?_)
        · have k15 : sx p2 = 42 := nIe (b := 42) (by have := hsx (p2); omega) (by decide) c15
          refine z_aload_n (pc := 36) F dX8_readTerm_36 rfl 0 rfl ?_
          refine z_callVW (pc := 37) (q0 := 0) (ci := 8) (rest := []) F (c_X8_see l E r S tp sx p2 (nI (a + c0.length)) (nI op) cd2 nm2 ht hp2) 0 ww_Model_180 (by decide +kernel) rfl (by constructor <;> (dsimp only; omega)) ⟨Nat.le_of_ble_eq_true rfl, Nat.le_of_ble_eq_true rfl⟩ rfl rfl rfl rfl (Nat.le_of_ble_eq_true rfl) dX8_readTerm_37 (fun v_ w1_ hp => ?_)
          obtain ⟨rfl, rfl⟩ := hp
          show Z X (0) (0) (mw E r (mps S (nI p2) (nI (a + c0.length)) (nI op) cd2 nm2)) [(0, .ref (r 0))] 40 [.int (nI (sx p2))]
          refine z_bipush (pc := 40) (v := 42) F dX8_readTerm_40 (by decide) ?_
          refine z_icmp_ne (pc := 42) (tgt := 50) F dX8_readTerm_42 (by decide) (fun c42 => absurd c42 (fun h => h (by rw [k15]; rfl))) (fun c42 => ?_)
          refine z_bipush (pc := 45) (v := 12) F dX8_readTerm_45 (by decide) ?_
          refine z_goto (pc := 47) (tgt := 66) F dX8_readTerm_47 (by decide) ?_
          refine z_istore_n (pc := 66) (lv' := [(0, .ref (r 0)), (1, .int 12)]) F dX8_readTerm_66 rfl (by decide) [1, 0] rfl ?_
          refine z_aload_n (pc := 67) F dX8_readTerm_67 rfl 0 rfl ?_
          refine z_dup (pc := 68) F dX8_readTerm_68 rfl ?_
          refine z_get (pc := 69) (v := .int (nI p2)) F iX8 0 rfl rfl 35 (by decide) tw_893 rfl dX8_readTerm_69 ?_
          refine z_iconst (pc := 72) (v := 1) F dX8_readTerm_72 (by decide) ?_
          refine z_iadd (pc := 73) F dX8_readTerm_73 ?_
          rw [show ((nI p2) + 1) = nI (p2 + 1) from (nI_1 _)]
          refine z_put (pc := 74) (ws' := mw E r (mps S (nI (p2 + 1)) (nI (a + c0.length)) (nI op) cd2 nm2)) F iX8 tyX8 tyX8_ok nmX8 0 rfl rfl 35 (by decide) tw_893 rfl rfl rfl (Nat.le_of_ble_eq_true rfl) dX8_readTerm_74 rfl ?_
          refine z_aload_n (pc := 77) F dX8_readTerm_77 rfl 0 rfl ?_
          obtain ⟨p3, c3, hh3⟩ := ps_8y hl (by omega); rcases hh3 with ⟨h3, e4⟩ | ⟨h3, R5, h5, e4⟩
          · have hlt2 : p2 < tp := sx_lt h0 (by omega)
            refine z_callVW (pc := 78) (q0 := 0) (ci := 8) (rest := []) F (pC_n (ihS k' (by omega)) h3 (by omega) (by omega) (by omega)) 0 ww_Model_214 (by decide +kernel) rfl (by constructor <;> (dsimp only; omega)) ⟨Nat.le_of_ble_eq_true rfl, Nat.le_of_ble_eq_true rfl⟩ rfl rfl rfl rfl (Nat.le_of_ble_eq_true rfl) dX8_readTerm_78 (fun v_ w1_ hp => ?_)
            obtain ⟨a3, op3, cd3, nm3, rfl, rfl, h78_0⟩ := hp
            show Z X (0) (0) (mw E r (mps S (nI p3) a3 op3 cd3 nm3)) [(0, .ref (r 0)), (1, .int 12)] 81 [.int 0]
            refine z_if_ne (pc := 81) (tgt := 86) F dX8_readTerm_81 (by decide) (fun h => absurd h (by decide)) (fun _ => ?_)
            refine z_iconst (pc := 84) (v := 0) F dX8_readTerm_84 (by decide) ?_
            exact z_zret (pc := 85) F hR rfl dX8_readTerm_85 (Nat.le_of_ble_eq_true rfl) (Nat.le_of_ble_eq_true rfl) (by subst e4; exact lp_fail he1 he2 (agr_tr hg2 (by omega) h78_0))
          · have hlt2 : p2 < tp := sx_lt h0 (by omega)
            have b3 : (p2 + 1) ≤ p3 ∧ ((p2 + 1) ≤ tp → p3 ≤ tp) ∧ c3.length ≤ 2 * (p3 - (p2 + 1)) := by simpa [bnd] using ps_b h0 _ _ _ _ _ (by decide) h3
            refine z_callVW (pc := 78) (q0 := 0) (ci := 8) (rest := []) F (pC_y (ihS k' (by omega)) h3 (by omega) (by omega) (by omega)) 0 ww_Model_214 (by decide +kernel) rfl (by constructor <;> (dsimp only; omega)) ⟨Nat.le_of_ble_eq_true rfl, Nat.le_of_ble_eq_true rfl⟩ rfl rfl rfl rfl (Nat.le_of_ble_eq_true rfl) dX8_readTerm_78 (fun v_ w1_ hp => ?_)
            obtain ⟨cd3, nm3, rfl, rfl, h78_0, h78_1⟩ := hp
            show Z X (0) (0) (mw E r (mps S (nI p3) (nI ((a + c0.length) + c3.length)) (nI op) cd3 nm3)) [(0, .ref (r 0)), (1, .int 12)] 81 [.int 1]
            refine z_if_ne (pc := 81) (tgt := 86) F dX8_readTerm_81 (by decide) (fun _ => ?_) (fun h => absurd h (by decide))
            refine z_aload_n (pc := 86) F dX8_readTerm_86 rfl 0 rfl ?_
            refine z_iload_n (pc := 87) F dX8_readTerm_87 rfl 1 rfl ?_
            refine z_iconst (pc := 88) (v := 0) F dX8_readTerm_88 (by decide) ?_
            refine z_callVW (pc := 89) (q0 := 0) (ci := 8) (rest := []) F (c_X8_lay l E r S p3 (nI op) cd3 nm3 nq ((a + c0.length) + c3.length) 12 0 hn6 hn3 (by omega)) 2 ww_Model_196 (by decide +kernel) rfl (by constructor <;> (dsimp only; omega)) ⟨Nat.le_of_ble_eq_true rfl, Nat.le_of_ble_eq_true rfl⟩ rfl rfl rfl rfl (Nat.le_of_ble_eq_true rfl) dX8_readTerm_89 (fun v_ w1_ hp => ?_)
            obtain ⟨rfl, rfl⟩ := hp
            show Z X (0) (0) (mw E r (mps S (nI p3) (nI (((a + c0.length) + c3.length) + 1)) (nI op) (upd cd3 (240 * nq + ((a + c0.length) + c3.length)) (nI 12)) (upd nm3 (240 * nq + ((a + c0.length) + c3.length)) (nI 0)))) [(0, .ref (r 0)), (1, .int 12)] 92 []
            refine z_goto (pc := 92) (tgt := 9) F dX8_readTerm_92 (by decide) ?_
            refine z_locals (lv' := [(0, .ref (r 0))]) [0] rfl ?_
            subst e4; rw [show mulO (sx p2) = 12 by simp [mulO, k15]] at he3; rw [show a + c0.length + c3.length + 1 = a + (c0 ++ (c3 ++ [(12, 0)])).length by simp; omega]; exact ih9 k' p3 _ _ _ R5 (by omega) (by omega) h5 he1 he2 (by rw [List.append_assoc]; exact he3) (by omega) (by simp; omega) (agr_lay (agr_tr hg2 (by omega) h78_0) (by omega)) (laid_app hl2 (agr_lay h78_0 (by omega)) (laid_lay h78_1))
        · have k15 : ¬ sx p2 = 42 := fun h => c15 (by rw [h]; rfl)
          refine z_aload_n (pc := 18) F dX8_readTerm_18 rfl 0 rfl ?_
          refine z_callVW (pc := 19) (q0 := 0) (ci := 8) (rest := []) F (c_X8_see l E r S tp sx p2 (nI (a + c0.length)) (nI op) cd2 nm2 ht hp2) 0 ww_Model_180 (by decide +kernel) rfl (by constructor <;> (dsimp only; omega)) ⟨Nat.le_of_ble_eq_true rfl, Nat.le_of_ble_eq_true rfl⟩ rfl rfl rfl rfl (Nat.le_of_ble_eq_true rfl) dX8_readTerm_19 (fun v_ w1_ hp => ?_)
          obtain ⟨rfl, rfl⟩ := hp
          show Z X (0) (0) (mw E r (mps S (nI p2) (nI (a + c0.length)) (nI op) cd2 nm2)) [(0, .ref (r 0))] 22 [.int (nI (sx p2))]
          refine z_bipush (pc := 22) (v := 47) F dX8_readTerm_22 (by decide) ?_
          refine z_icmp_eq (pc := 24) (tgt := 36) F dX8_readTerm_24 (by decide) (fun c24 => ?_) (fun c24 => ?_)
          · have k24 : sx p2 = 47 := nIe (b := 47) (by have := hsx (p2); omega) (by decide) c24
            refine z_aload_n (pc := 36) F dX8_readTerm_36 rfl 0 rfl ?_
            refine z_callVW (pc := 37) (q0 := 0) (ci := 8) (rest := []) F (c_X8_see l E r S tp sx p2 (nI (a + c0.length)) (nI op) cd2 nm2 ht hp2) 0 ww_Model_180 (by decide +kernel) rfl (by constructor <;> (dsimp only; omega)) ⟨Nat.le_of_ble_eq_true rfl, Nat.le_of_ble_eq_true rfl⟩ rfl rfl rfl rfl (Nat.le_of_ble_eq_true rfl) dX8_readTerm_37 (fun v_ w1_ hp => ?_)
            obtain ⟨rfl, rfl⟩ := hp
            show Z X (0) (0) (mw E r (mps S (nI p2) (nI (a + c0.length)) (nI op) cd2 nm2)) [(0, .ref (r 0))] 40 [.int (nI (sx p2))]
            refine z_bipush (pc := 40) (v := 42) F dX8_readTerm_40 (by decide) ?_
            refine z_icmp_ne (pc := 42) (tgt := 50) F dX8_readTerm_42 (by decide) (fun c42 => ?_) (fun c42 => absurd c42 (fun h => k15 (nIe (b := 42) (by have := hsx p2; omega) (by decide) h)))
            refine z_aload_n (pc := 50) F dX8_readTerm_50 rfl 0 rfl ?_
            refine z_callVW (pc := 51) (q0 := 0) (ci := 8) (rest := []) F (c_X8_see l E r S tp sx p2 (nI (a + c0.length)) (nI op) cd2 nm2 ht hp2) 0 ww_Model_180 (by decide +kernel) rfl (by constructor <;> (dsimp only; omega)) ⟨Nat.le_of_ble_eq_true rfl, Nat.le_of_ble_eq_true rfl⟩ rfl rfl rfl rfl (Nat.le_of_ble_eq_true rfl) dX8_readTerm_51 (fun v_ w1_ hp => ?_)
            obtain ⟨rfl, rfl⟩ := hp
            show Z X (0) (0) (mw E r (mps S (nI p2) (nI (a + c0.length)) (nI op) cd2 nm2)) [(0, .ref (r 0))] 54 [.int (nI (sx p2))]
            refine z_bipush (pc := 54) (v := 47) F dX8_readTerm_54 (by decide) ?_
            refine z_icmp_ne (pc := 56) (tgt := 64) F dX8_readTerm_56 (by decide) (fun c56 => absurd c56 (fun h => h (by rw [k24]; rfl))) (fun c56 => ?_)
            refine z_bipush (pc := 59) (v := 13) F dX8_readTerm_59 (by decide) ?_
            refine z_goto (pc := 61) (tgt := 66) F dX8_readTerm_61 (by decide) ?_
            refine z_istore_n (pc := 66) (lv' := [(0, .ref (r 0)), (1, .int 13)]) F dX8_readTerm_66 rfl (by decide) [1, 0] rfl ?_
            refine z_aload_n (pc := 67) F dX8_readTerm_67 rfl 0 rfl ?_
            refine z_dup (pc := 68) F dX8_readTerm_68 rfl ?_
            refine z_get (pc := 69) (v := .int (nI p2)) F iX8 0 rfl rfl 35 (by decide) tw_893 rfl dX8_readTerm_69 ?_
            refine z_iconst (pc := 72) (v := 1) F dX8_readTerm_72 (by decide) ?_
            refine z_iadd (pc := 73) F dX8_readTerm_73 ?_
            rw [show ((nI p2) + 1) = nI (p2 + 1) from (nI_1 _)]
            refine z_put (pc := 74) (ws' := mw E r (mps S (nI (p2 + 1)) (nI (a + c0.length)) (nI op) cd2 nm2)) F iX8 tyX8 tyX8_ok nmX8 0 rfl rfl 35 (by decide) tw_893 rfl rfl rfl (Nat.le_of_ble_eq_true rfl) dX8_readTerm_74 rfl ?_
            refine z_aload_n (pc := 77) F dX8_readTerm_77 rfl 0 rfl ?_
            obtain ⟨p3, c3, hh3⟩ := ps_8y hl (by omega); rcases hh3 with ⟨h3, e4⟩ | ⟨h3, R5, h5, e4⟩
            · have hlt2 : p2 < tp := sx_lt h0 (by omega)
              refine z_callVW (pc := 78) (q0 := 0) (ci := 8) (rest := []) F (pC_n (ihS k' (by omega)) h3 (by omega) (by omega) (by omega)) 0 ww_Model_214 (by decide +kernel) rfl (by constructor <;> (dsimp only; omega)) ⟨Nat.le_of_ble_eq_true rfl, Nat.le_of_ble_eq_true rfl⟩ rfl rfl rfl rfl (Nat.le_of_ble_eq_true rfl) dX8_readTerm_78 (fun v_ w1_ hp => ?_)
              obtain ⟨a3, op3, cd3, nm3, rfl, rfl, h78_0⟩ := hp
              show Z X (0) (0) (mw E r (mps S (nI p3) a3 op3 cd3 nm3)) [(0, .ref (r 0)), (1, .int 13)] 81 [.int 0]
              refine z_if_ne (pc := 81) (tgt := 86) F dX8_readTerm_81 (by decide) (fun h => absurd h (by decide)) (fun _ => ?_)
              refine z_iconst (pc := 84) (v := 0) F dX8_readTerm_84 (by decide) ?_
              exact z_zret (pc := 85) F hR rfl dX8_readTerm_85 (Nat.le_of_ble_eq_true rfl) (Nat.le_of_ble_eq_true rfl) (by subst e4; exact lp_fail he1 he2 (agr_tr hg2 (by omega) h78_0))
            · have hlt2 : p2 < tp := sx_lt h0 (by omega)
              have b3 : (p2 + 1) ≤ p3 ∧ ((p2 + 1) ≤ tp → p3 ≤ tp) ∧ c3.length ≤ 2 * (p3 - (p2 + 1)) := by simpa [bnd] using ps_b h0 _ _ _ _ _ (by decide) h3
              refine z_callVW (pc := 78) (q0 := 0) (ci := 8) (rest := []) F (pC_y (ihS k' (by omega)) h3 (by omega) (by omega) (by omega)) 0 ww_Model_214 (by decide +kernel) rfl (by constructor <;> (dsimp only; omega)) ⟨Nat.le_of_ble_eq_true rfl, Nat.le_of_ble_eq_true rfl⟩ rfl rfl rfl rfl (Nat.le_of_ble_eq_true rfl) dX8_readTerm_78 (fun v_ w1_ hp => ?_)
              obtain ⟨cd3, nm3, rfl, rfl, h78_0, h78_1⟩ := hp
              show Z X (0) (0) (mw E r (mps S (nI p3) (nI ((a + c0.length) + c3.length)) (nI op) cd3 nm3)) [(0, .ref (r 0)), (1, .int 13)] 81 [.int 1]
              refine z_if_ne (pc := 81) (tgt := 86) F dX8_readTerm_81 (by decide) (fun _ => ?_) (fun h => absurd h (by decide))
              refine z_aload_n (pc := 86) F dX8_readTerm_86 rfl 0 rfl ?_
              refine z_iload_n (pc := 87) F dX8_readTerm_87 rfl 1 rfl ?_
              refine z_iconst (pc := 88) (v := 0) F dX8_readTerm_88 (by decide) ?_
              refine z_callVW (pc := 89) (q0 := 0) (ci := 8) (rest := []) F (c_X8_lay l E r S p3 (nI op) cd3 nm3 nq ((a + c0.length) + c3.length) 13 0 hn6 hn3 (by omega)) 2 ww_Model_196 (by decide +kernel) rfl (by constructor <;> (dsimp only; omega)) ⟨Nat.le_of_ble_eq_true rfl, Nat.le_of_ble_eq_true rfl⟩ rfl rfl rfl rfl (Nat.le_of_ble_eq_true rfl) dX8_readTerm_89 (fun v_ w1_ hp => ?_)
              obtain ⟨rfl, rfl⟩ := hp
              show Z X (0) (0) (mw E r (mps S (nI p3) (nI (((a + c0.length) + c3.length) + 1)) (nI op) (upd cd3 (240 * nq + ((a + c0.length) + c3.length)) (nI 13)) (upd nm3 (240 * nq + ((a + c0.length) + c3.length)) (nI 0)))) [(0, .ref (r 0)), (1, .int 13)] 92 []
              refine z_goto (pc := 92) (tgt := 9) F dX8_readTerm_92 (by decide) ?_
              refine z_locals (lv' := [(0, .ref (r 0))]) [0] rfl ?_
              subst e4; rw [show mulO (sx p2) = 13 by simp [mulO, k24]] at he3; rw [show a + c0.length + c3.length + 1 = a + (c0 ++ (c3 ++ [(13, 0)])).length by simp; omega]; exact ih9 k' p3 _ _ _ R5 (by omega) (by omega) h5 he1 he2 (by rw [List.append_assoc]; exact he3) (by omega) (by simp; omega) (agr_lay (agr_tr hg2 (by omega) h78_0) (by omega)) (laid_app hl2 (agr_lay h78_0 (by omega)) (laid_lay h78_1))
          · have k24 : ¬ sx p2 = 47 := fun h => c24 (by rw [h]; rfl)
            refine z_aload_n (pc := 27) F dX8_readTerm_27 rfl 0 rfl ?_
            refine z_callVW (pc := 28) (q0 := 0) (ci := 8) (rest := []) F (c_X8_see l E r S tp sx p2 (nI (a + c0.length)) (nI op) cd2 nm2 ht hp2) 0 ww_Model_180 (by decide +kernel) rfl (by constructor <;> (dsimp only; omega)) ⟨Nat.le_of_ble_eq_true rfl, Nat.le_of_ble_eq_true rfl⟩ rfl rfl rfl rfl (Nat.le_of_ble_eq_true rfl) dX8_readTerm_28 (fun v_ w1_ hp => ?_)
            obtain ⟨rfl, rfl⟩ := hp
            show Z X (0) (0) (mw E r (mps S (nI p2) (nI (a + c0.length)) (nI op) cd2 nm2)) [(0, .ref (r 0))] 31 [.int (nI (sx p2))]
            refine z_bipush (pc := 31) (v := 37) F dX8_readTerm_31 (by decide) ?_
            refine z_icmp_ne (pc := 33) (tgt := 95) F dX8_readTerm_33 (by decide) (fun c33 => ?_) (fun c33 => ?_)
            · have k33 : ¬ sx p2 = 37 := fun h => c33 (by rw [h]; rfl)
              refine z_iconst (pc := 95) (v := 1) F dX8_readTerm_95 (by decide) ?_
              exact z_zret (pc := 96) F hR rfl dX8_readTerm_96 (Nat.le_of_ble_eq_true rfl) (Nat.le_of_ble_eq_true rfl) (by have e4 := ps_8n hl (by omega); subst e4; exact lp_end he1 he2 he3 hg2 hl2)
            · have k33 : sx p2 = 37 := nIe (b := 37) (by have := hsx (p2); omega) (by decide) c33
              refine z_aload_n (pc := 36) F dX8_readTerm_36 rfl 0 rfl ?_
              refine z_callVW (pc := 37) (q0 := 0) (ci := 8) (rest := []) F (c_X8_see l E r S tp sx p2 (nI (a + c0.length)) (nI op) cd2 nm2 ht hp2) 0 ww_Model_180 (by decide +kernel) rfl (by constructor <;> (dsimp only; omega)) ⟨Nat.le_of_ble_eq_true rfl, Nat.le_of_ble_eq_true rfl⟩ rfl rfl rfl rfl (Nat.le_of_ble_eq_true rfl) dX8_readTerm_37 (fun v_ w1_ hp => ?_)
              obtain ⟨rfl, rfl⟩ := hp
              show Z X (0) (0) (mw E r (mps S (nI p2) (nI (a + c0.length)) (nI op) cd2 nm2)) [(0, .ref (r 0))] 40 [.int (nI (sx p2))]
              refine z_bipush (pc := 40) (v := 42) F dX8_readTerm_40 (by decide) ?_
              refine z_icmp_ne (pc := 42) (tgt := 50) F dX8_readTerm_42 (by decide) (fun c42 => ?_) (fun c42 => absurd c42 (fun h => k15 (nIe (b := 42) (by have := hsx p2; omega) (by decide) h)))
              refine z_aload_n (pc := 50) F dX8_readTerm_50 rfl 0 rfl ?_
              refine z_callVW (pc := 51) (q0 := 0) (ci := 8) (rest := []) F (c_X8_see l E r S tp sx p2 (nI (a + c0.length)) (nI op) cd2 nm2 ht hp2) 0 ww_Model_180 (by decide +kernel) rfl (by constructor <;> (dsimp only; omega)) ⟨Nat.le_of_ble_eq_true rfl, Nat.le_of_ble_eq_true rfl⟩ rfl rfl rfl rfl (Nat.le_of_ble_eq_true rfl) dX8_readTerm_51 (fun v_ w1_ hp => ?_)
              obtain ⟨rfl, rfl⟩ := hp
              show Z X (0) (0) (mw E r (mps S (nI p2) (nI (a + c0.length)) (nI op) cd2 nm2)) [(0, .ref (r 0))] 54 [.int (nI (sx p2))]
              refine z_bipush (pc := 54) (v := 47) F dX8_readTerm_54 (by decide) ?_
              refine z_icmp_ne (pc := 56) (tgt := 64) F dX8_readTerm_56 (by decide) (fun c56 => ?_) (fun c56 => absurd c56 (fun h => k24 (nIe (b := 47) (by have := hsx p2; omega) (by decide) h)))
              refine z_bipush (pc := 64) (v := 14) F dX8_readTerm_64 (by decide) ?_
              refine z_istore_n (pc := 66) (lv' := [(0, .ref (r 0)), (1, .int 14)]) F dX8_readTerm_66 rfl (by decide) [1, 0] rfl ?_
              refine z_aload_n (pc := 67) F dX8_readTerm_67 rfl 0 rfl ?_
              refine z_dup (pc := 68) F dX8_readTerm_68 rfl ?_
              refine z_get (pc := 69) (v := .int (nI p2)) F iX8 0 rfl rfl 35 (by decide) tw_893 rfl dX8_readTerm_69 ?_
              refine z_iconst (pc := 72) (v := 1) F dX8_readTerm_72 (by decide) ?_
              refine z_iadd (pc := 73) F dX8_readTerm_73 ?_
              rw [show ((nI p2) + 1) = nI (p2 + 1) from (nI_1 _)]
              refine z_put (pc := 74) (ws' := mw E r (mps S (nI (p2 + 1)) (nI (a + c0.length)) (nI op) cd2 nm2)) F iX8 tyX8 tyX8_ok nmX8 0 rfl rfl 35 (by decide) tw_893 rfl rfl rfl (Nat.le_of_ble_eq_true rfl) dX8_readTerm_74 rfl ?_
              refine z_aload_n (pc := 77) F dX8_readTerm_77 rfl 0 rfl ?_
              obtain ⟨p3, c3, hh3⟩ := ps_8y hl (by omega); rcases hh3 with ⟨h3, e4⟩ | ⟨h3, R5, h5, e4⟩
              · have hlt2 : p2 < tp := sx_lt h0 (by omega)
                refine z_callVW (pc := 78) (q0 := 0) (ci := 8) (rest := []) F (pC_n (ihS k' (by omega)) h3 (by omega) (by omega) (by omega)) 0 ww_Model_214 (by decide +kernel) rfl (by constructor <;> (dsimp only; omega)) ⟨Nat.le_of_ble_eq_true rfl, Nat.le_of_ble_eq_true rfl⟩ rfl rfl rfl rfl (Nat.le_of_ble_eq_true rfl) dX8_readTerm_78 (fun v_ w1_ hp => ?_)
                obtain ⟨a3, op3, cd3, nm3, rfl, rfl, h78_0⟩ := hp
                show Z X (0) (0) (mw E r (mps S (nI p3) a3 op3 cd3 nm3)) [(0, .ref (r 0)), (1, .int 14)] 81 [.int 0]
                refine z_if_ne (pc := 81) (tgt := 86) F dX8_readTerm_81 (by decide) (fun h => absurd h (by decide)) (fun _ => ?_)
                refine z_iconst (pc := 84) (v := 0) F dX8_readTerm_84 (by decide) ?_
                exact z_zret (pc := 85) F hR rfl dX8_readTerm_85 (Nat.le_of_ble_eq_true rfl) (Nat.le_of_ble_eq_true rfl) (by subst e4; exact lp_fail he1 he2 (agr_tr hg2 (by omega) h78_0))
              · have hlt2 : p2 < tp := sx_lt h0 (by omega)
                have b3 : (p2 + 1) ≤ p3 ∧ ((p2 + 1) ≤ tp → p3 ≤ tp) ∧ c3.length ≤ 2 * (p3 - (p2 + 1)) := by simpa [bnd] using ps_b h0 _ _ _ _ _ (by decide) h3
                refine z_callVW (pc := 78) (q0 := 0) (ci := 8) (rest := []) F (pC_y (ihS k' (by omega)) h3 (by omega) (by omega) (by omega)) 0 ww_Model_214 (by decide +kernel) rfl (by constructor <;> (dsimp only; omega)) ⟨Nat.le_of_ble_eq_true rfl, Nat.le_of_ble_eq_true rfl⟩ rfl rfl rfl rfl (Nat.le_of_ble_eq_true rfl) dX8_readTerm_78 (fun v_ w1_ hp => ?_)
                obtain ⟨cd3, nm3, rfl, rfl, h78_0, h78_1⟩ := hp
                show Z X (0) (0) (mw E r (mps S (nI p3) (nI ((a + c0.length) + c3.length)) (nI op) cd3 nm3)) [(0, .ref (r 0)), (1, .int 14)] 81 [.int 1]
                refine z_if_ne (pc := 81) (tgt := 86) F dX8_readTerm_81 (by decide) (fun _ => ?_) (fun h => absurd h (by decide))
                refine z_aload_n (pc := 86) F dX8_readTerm_86 rfl 0 rfl ?_
                refine z_iload_n (pc := 87) F dX8_readTerm_87 rfl 1 rfl ?_
                refine z_iconst (pc := 88) (v := 0) F dX8_readTerm_88 (by decide) ?_
                refine z_callVW (pc := 89) (q0 := 0) (ci := 8) (rest := []) F (c_X8_lay l E r S p3 (nI op) cd3 nm3 nq ((a + c0.length) + c3.length) 14 0 hn6 hn3 (by omega)) 2 ww_Model_196 (by decide +kernel) rfl (by constructor <;> (dsimp only; omega)) ⟨Nat.le_of_ble_eq_true rfl, Nat.le_of_ble_eq_true rfl⟩ rfl rfl rfl rfl (Nat.le_of_ble_eq_true rfl) dX8_readTerm_89 (fun v_ w1_ hp => ?_)
                obtain ⟨rfl, rfl⟩ := hp
                show Z X (0) (0) (mw E r (mps S (nI p3) (nI (((a + c0.length) + c3.length) + 1)) (nI op) (upd cd3 (240 * nq + ((a + c0.length) + c3.length)) (nI 14)) (upd nm3 (240 * nq + ((a + c0.length) + c3.length)) (nI 0)))) [(0, .ref (r 0)), (1, .int 14)] 92 []
                refine z_goto (pc := 92) (tgt := 9) F dX8_readTerm_92 (by decide) ?_
                refine z_locals (lv' := [(0, .ref (r 0))]) [0] rfl ?_
                subst e4; rw [show mulO (sx p2) = 14 by simp [mulO, k33]] at he3; rw [show a + c0.length + c3.length + 1 = a + (c0 ++ (c3 ++ [(14, 0)])).length by simp; omega]; exact ih9 k' p3 _ _ _ R5 (by omega) (by omega) h5 he1 he2 (by rw [List.append_assoc]; exact he3) (by omega) (by simp; omega) (agr_lay (agr_tr hg2 (by omega) h78_0) (by omega)) (laid_app hl2 (agr_lay h78_0 (by omega)) (laid_lay h78_1))
    have b1 : p ≤ p1 ∧ (p ≤ tp → p1 ≤ tp) ∧ c1.length ≤ 2 * (p1 - p) := by simpa [bnd] using ps_b h0 _ _ _ _ _ (by decide) h1
    exact L9 _ n' p1 c1 cd1 nm1 R2 (Nat.lt_succ_self _) (Nat.le_refl _) h2 rfl rfl rfl (by omega) (by omega) h1_0 h1_1

theorem nar_c {k : Nat} (h : k < 127) : narrow .char (.int (nI k)) = .int (nI k) := by
  have : ∀ j : Fin 127, narrow .char (.int (nI j.val)) = .int (nI j.val) := by decide +kernel
  exact this ⟨k, h⟩
theorem dgs_g2 {sx : Nat → Nat} {p k v mo : Nat} (h : isD (sx p) = true) (hk : k < mo) : dgs sx (mo - k) p v = dgs sx (mo - (k + 1)) (p + 1) (10 * v + sx p - 48) := by
  rw [show mo - k = (mo - (k + 1)) + 1 by omega]
  simp [dgs, h]
set_option maxHeartbeats 4000000 in
set_option maxRecDepth 100000 in
theorem c_X3_peek (l : Launch) (E : zE) (r : Nat → Nat) (rt : Nat → Nat) (rp : Nat → Nat) (S : zS) (ST : zS) (SP : zS) (tp : Nat) (sx : Nat → Nat) (p : Nat) (ht : tpC ST tp sx) (hp : p ≤ tp) : Ct l yX3_peek cX3_peek 1 (some .char) ({ frames := 0, cells := 0, slots := 0, locals := 0 } : Room) E (rdw E r (rt 0) (.ref (rp 0)) (mrd S (nI p)) ++ tpw E rt ST ++ plw E rp SP) [.ref (r 0)] (fun v_ w_ => v_ = some (.int (nI (sx p))) ∧ w_ = rdw E r (rt 0) (.ref (rp 0)) (mrd S (nI p)) ++ tpw E rt ST ++ plw E rp SP) := by
  refine Ct.of (by decide) (Nat.le_of_ble_eq_true rfl) (lv := [(0, .ref (r 0))]) rfl ?_
  intro X F hR
  have F : zF X l ({ frames := 0, cells := 0, slots := 0, locals := 0 } : Room) E cX3_peek 1 "LiveQueries$Reader" := F
  have htp := ht.2.1
  have hsx := ht.2.2.2.2
  have h0 := ht.2.2.2.1
  have hspc := hsx p
  refine z_aload_n (pc := 0) F dX3_peek_0 rfl 0 rfl ?_
  refine z_get (pc := 1) (v := .int (nI p)) F iX3 0 rfl rfl 2 (by decide) tw_149 rfl dX3_peek_1 ?_
  refine z_aload_n (pc := 4) F dX3_peek_4 rfl 0 rfl ?_
  refine z_get (pc := 5) (v := .ref (rt 0)) F iX3 0 rfl rfl 0 (by decide) tw_147 rfl dX3_peek_5 ?_
  refine z_getN (pc := 8) (v := .int (zi ST 0)) F iX5 1 rfl rfl 1 (by decide) nw_134 rfl dX3_peek_8 ?_
  rw [show (zi ST 0) = nI tp from ht.1]
  refine z_icmp_ge (pc := 11) (tgt := 29) F dX3_peek_11 (by decide) (fun c11 => ?_) (fun c11 => ?_)
  · have k11 := gI (by omega) (by omega) c11
    refine z_iconst (pc := 29) (v := 0) F dX3_peek_29 (by decide) ?_
    exact z_zret (pc := 30) F hR (by first | rfl | exact nar_c (hsx p)) dX3_peek_30 (Nat.le_of_ble_eq_true rfl) (Nat.le_of_ble_eq_true rfl) ⟨by rw [h0 p k11]; rfl, rfl⟩
  · have k11 := ngI (by omega) (by omega) c11
    refine z_aload_n (pc := 14) F dX3_peek_14 rfl 0 rfl ?_
    refine z_get (pc := 15) (v := .ref (rt 0)) F iX3 0 rfl rfl 0 (by decide) tw_147 rfl dX3_peek_15 ?_
    refine z_getN (pc := 18) (v := .ref (rt 1)) F iX5 1 rfl rfl 0 (by decide) nw_132 rfl dX3_peek_18 ?_
    refine z_aload_n (pc := 21) F dX3_peek_21 rfl 0 rfl ?_
    refine z_get (pc := 22) (v := .int (nI p)) F iX3 0 rfl rfl 2 (by decide) tw_149 rfl dX3_peek_22 ?_
    refine z_caldN (pc := 25) (f := za ST 1) F 2 3 rfl rfl p rfl (by omega) (by decide) dX3_peek_25 ?_
    rw [show (za ST 1 p) = nI (sx p) from (ht.2.2.1 p k11)]
    refine z_goto (pc := 26) (tgt := 30) F dX3_peek_26 (by decide) ?_
    exact z_zret (pc := 30) F hR (by first | rfl | exact nar_c (hsx p)) dX3_peek_30 (Nat.le_of_ble_eq_true rfl) (Nat.le_of_ble_eq_true rfl) ⟨rfl, rfl⟩
set_option maxHeartbeats 4000000 in
set_option maxRecDepth 100000 in
theorem c_X3_pass_y (l : Launch) (E : zE) (r : Nat → Nat) (rt : Nat → Nat) (rp : Nat → Nat) (S : zS) (ST : zS) (SP : zS) (tp : Nat) (sx : Nat → Nat) (p : Nat) (ch : Nat) (ht : tpC ST tp sx) (hp : p ≤ tp) (hch : ch < 2 ^ 31) (hc : sx p = ch) : Ct l yX3_pass cX3_pass 2 (some .boolean) ({ frames := 1, cells := 0, slots := 0, locals := 21 } : Room) E (rdw E r (rt 0) (.ref (rp 0)) (mrd S (nI p)) ++ tpw E rt ST ++ plw E rp SP) [.ref (r 0), .int (nI ch)] (fun v_ w_ => v_ = some (.int (bI true)) ∧ w_ = rdw E r (rt 0) (.ref (rp 0)) (mrd S (nI (p + 1))) ++ tpw E rt ST ++ plw E rp SP) := by
  refine Ct.of (by decide) (Nat.le_of_ble_eq_true rfl) (lv := [(0, .ref (r 0)), (1, .int (nI ch))]) rfl ?_
  intro X F hR
  have F : zF X l ({ frames := 1, cells := 0, slots := 0, locals := 21 } : Room) E cX3_pass 2 "LiveQueries$Reader" := F
  have htp := ht.2.1
  have hsx := ht.2.2.2.2
  have h0 := ht.2.2.2.1
  refine z_aload_n (pc := 0) F dX3_pass_0 rfl 0 rfl ?_
  refine z_callVW (pc := 1) (q0 := 0) (ci := 3) (rest := []) F (c_X3_peek l E r rt rp S ST SP tp sx p ht (by omega)) 0 ww_Reader_51 (by decide +kernel) rfl ⟨Nat.le_of_ble_eq_true rfl, Nat.le_of_ble_eq_true rfl⟩ ⟨Nat.le_of_ble_eq_true rfl, Nat.le_of_ble_eq_true rfl⟩ rfl rfl rfl rfl (Nat.le_of_ble_eq_true rfl) dX3_pass_1 (fun v_ w1_ hp => ?_)
  obtain ⟨rfl, rfl⟩ := hp
  show Z X (0) (0) (rdw E r (rt 0) (.ref (rp 0)) (mrd S (nI p)) ++ tpw E rt ST ++ plw E rp SP) [(0, .ref (r 0)), (1, .int (nI ch))] 4 [.int (nI (sx p))]
  refine z_iload_n (pc := 4) F dX3_pass_4 rfl 1 rfl ?_
  refine z_icmp_eq (pc := 5) (tgt := 10) F dX3_pass_5 (by decide) (fun c5 => ?_) (fun c5 => absurd (by rw [hc]) c5)
  refine z_aload_n (pc := 10) F dX3_pass_10 rfl 0 rfl ?_
  refine z_dup (pc := 11) F dX3_pass_11 rfl ?_
  refine z_get (pc := 12) (v := .int (nI p)) F iX3 0 rfl rfl 2 (by decide) tw_149 rfl dX3_pass_12 ?_
  refine z_iconst (pc := 15) (v := 1) F dX3_pass_15 (by decide) ?_
  refine z_iadd (pc := 16) F dX3_pass_16 ?_
  rw [show ((nI p) + 1) = nI (p + 1) from (nI_1 _)]
  refine z_put (pc := 17) (ws' := rdw E r (rt 0) (.ref (rp 0)) (mrd S (nI (p + 1))) ++ tpw E rt ST ++ plw E rp SP) F iX3 tyX3 tyX3_ok nmX3 0 rfl rfl 2 (by decide) tw_149 rfl rfl rfl (Nat.le_of_ble_eq_true rfl) dX3_pass_17 rfl ?_
  refine z_iconst (pc := 20) (v := 1) F dX3_pass_20 (by decide) ?_
  exact z_zret (pc := 21) F hR rfl dX3_pass_21 (Nat.le_of_ble_eq_true rfl) (Nat.le_of_ble_eq_true rfl) ⟨rfl, rfl⟩
set_option maxHeartbeats 4000000 in
set_option maxRecDepth 100000 in
theorem c_X3_pass_n (l : Launch) (E : zE) (r : Nat → Nat) (rt : Nat → Nat) (rp : Nat → Nat) (S : zS) (ST : zS) (SP : zS) (tp : Nat) (sx : Nat → Nat) (p : Nat) (ch : Nat) (ht : tpC ST tp sx) (hp : p ≤ tp) (hch : ch < 2 ^ 31) (hc : ¬ sx p = ch) : Ct l yX3_pass cX3_pass 2 (some .boolean) ({ frames := 1, cells := 0, slots := 0, locals := 21 } : Room) E (rdw E r (rt 0) (.ref (rp 0)) (mrd S (nI p)) ++ tpw E rt ST ++ plw E rp SP) [.ref (r 0), .int (nI ch)] (fun v_ w_ => v_ = some (.int (bI false)) ∧ w_ = rdw E r (rt 0) (.ref (rp 0)) (mrd S (nI p)) ++ tpw E rt ST ++ plw E rp SP) := by
  refine Ct.of (by decide) (Nat.le_of_ble_eq_true rfl) (lv := [(0, .ref (r 0)), (1, .int (nI ch))]) rfl ?_
  intro X F hR
  have F : zF X l ({ frames := 1, cells := 0, slots := 0, locals := 21 } : Room) E cX3_pass 2 "LiveQueries$Reader" := F
  have htp := ht.2.1
  have hsx := ht.2.2.2.2
  have h0 := ht.2.2.2.1
  refine z_aload_n (pc := 0) F dX3_pass_0 rfl 0 rfl ?_
  refine z_callVW (pc := 1) (q0 := 0) (ci := 3) (rest := []) F (c_X3_peek l E r rt rp S ST SP tp sx p ht (by omega)) 0 ww_Reader_51 (by decide +kernel) rfl ⟨Nat.le_of_ble_eq_true rfl, Nat.le_of_ble_eq_true rfl⟩ ⟨Nat.le_of_ble_eq_true rfl, Nat.le_of_ble_eq_true rfl⟩ rfl rfl rfl rfl (Nat.le_of_ble_eq_true rfl) dX3_pass_1 (fun v_ w1_ hp => ?_)
  obtain ⟨rfl, rfl⟩ := hp
  show Z X (0) (0) (rdw E r (rt 0) (.ref (rp 0)) (mrd S (nI p)) ++ tpw E rt ST ++ plw E rp SP) [(0, .ref (r 0)), (1, .int (nI ch))] 4 [.int (nI (sx p))]
  refine z_iload_n (pc := 4) F dX3_pass_4 rfl 1 rfl ?_
  refine z_icmp_eq (pc := 5) (tgt := 10) F dX3_pass_5 (by decide) (fun c5 => absurd c5 (fun h => hc (nIe (by have := hsx p; omega) hch h))) (fun c5 => ?_)
  refine z_iconst (pc := 8) (v := 0) F dX3_pass_8 (by decide) ?_
  exact z_zret (pc := 9) F hR rfl dX3_pass_9 (Nat.le_of_ble_eq_true rfl) (Nat.le_of_ble_eq_true rfl) ⟨rfl, rfl⟩
set_option maxHeartbeats 4000000 in
set_option maxRecDepth 100000 in
theorem c_X3_isDigit (l : Launch) (E : zE) (k : Nat) (hk : k < 127) : Ct l yX3_isDigit cX3_isDigit 1 (some .boolean) ({ frames := 0, cells := 0, slots := 0, locals := 0 } : Room) E ([]) [.int (nI k)] (fun v_ w_ => v_ = some (.int (bI (isD k))) ∧ w_ = []) := by
  refine Ct.of (by decide) (Nat.le_of_ble_eq_true rfl) (lv := [(0, .int (nI k))]) rfl ?_
  intro X F hR
  have F : zF X l ({ frames := 0, cells := 0, slots := 0, locals := 0 } : Room) E cX3_isDigit 1 "LiveQueries$Reader" := F
  refine z_iload_n (pc := 0) F dX3_isDigit_0 rfl 0 rfl ?_
  refine z_bipush (pc := 1) (v := 48) F dX3_isDigit_1 (by decide) ?_
  refine z_icmp_lt (pc := 3) (tgt := 16) F dX3_isDigit_3 (by decide) (fun c3 => ?_) (fun c3 => ?_)
  · have k3 := (nI_ltI (b := 48) (by omega) (by decide)).mp c3
    refine z_iconst (pc := 16) (v := 0) F dX3_isDigit_16 (by decide) ?_
    exact z_zret (pc := 17) F hR rfl dX3_isDigit_17 (Nat.le_of_ble_eq_true rfl) (Nat.le_of_ble_eq_true rfl) ⟨by rw [show isD k = false from decide_eq_false (by omega)]; rfl, rfl⟩
  · have k3 : ¬ k < 48 := fun h => c3 (nI_lt (b := 48) h (by decide))
    refine z_iload_n (pc := 6) F dX3_isDigit_6 rfl 0 rfl ?_
    refine z_bipush (pc := 7) (v := 57) F dX3_isDigit_7 (by decide) ?_
    refine z_icmp_gt (pc := 9) (tgt := 16) F dX3_isDigit_9 (by decide) (fun c9 => ?_) (fun c9 => ?_)
    · have k9 := (nI_ltI (a := 57) (by decide) (by omega)).mp c9
      refine z_iconst (pc := 16) (v := 0) F dX3_isDigit_16 (by decide) ?_
      exact z_zret (pc := 17) F hR rfl dX3_isDigit_17 (Nat.le_of_ble_eq_true rfl) (Nat.le_of_ble_eq_true rfl) ⟨by rw [show isD k = false from decide_eq_false (by omega)]; rfl, rfl⟩
    · have k9 : ¬ 57 < k := fun h => c9 (nI_lt (a := 57) h (by omega))
      refine z_iconst (pc := 12) (v := 1) F dX3_isDigit_12 (by decide) ?_
      refine z_goto (pc := 13) (tgt := 17) F dX3_isDigit_13 (by decide) ?_
      exact z_zret (pc := 17) F hR rfl dX3_isDigit_17 (Nat.le_of_ble_eq_true rfl) (Nat.le_of_ble_eq_true rfl) ⟨by rw [show isD k = true from decide_eq_true (by omega)]; rfl, rfl⟩
set_option maxHeartbeats 4000000 in
set_option maxRecDepth 100000 in
theorem c_X3_readDigits (l : Launch) (E : zE) (r : Nat → Nat) (rt : Nat → Nat) (rp : Nat → Nat) (S : zS) (ST : zS) (SP : zS) (tp : Nat) (sx : Nat → Nat) (p : Nat) (mo : Nat) (ht : tpC ST tp sx) (hp : p ≤ tp) (hmo : mo < 100) : Ct l yX3_readDigits cX3_readDigits 4 (some .int) ({ frames := 1, cells := 0, slots := 0, locals := 21 } : Room) E (rdw E r (rt 0) (.ref (rp 0)) (mrd S (nI p)) ++ tpw E rt ST ++ plw E rp SP) [.ref (r 0), .int (nI mo)] (fun v_ w_ => v_ = some (.int (nI (dgs sx mo p 0).2)) ∧ w_ = rdw E r (rt 0) (.ref (rp 0)) (mrd S (nI (dgs sx mo p 0).1)) ++ tpw E rt ST ++ plw E rp SP) := by
  refine Ct.of (by decide) (Nat.le_of_ble_eq_true rfl) (lv := [(0, .ref (r 0)), (1, .int (nI mo))]) rfl ?_
  intro X F hR
  have F : zF X l ({ frames := 1, cells := 0, slots := 0, locals := 21 } : Room) E cX3_readDigits 4 "LiveQueries$Reader" := F
  have htp := ht.2.1
  have hsx := ht.2.2.2.2
  have h0 := ht.2.2.2.1
  refine z_iconst (pc := 0) (v := 0) F dX3_readDigits_0 (by decide) ?_
  refine z_istore_n (pc := 1) (lv' := [(0, .ref (r 0)), (1, .int (nI mo)), (2, .int 0)]) F dX3_readDigits_1 rfl (by decide) [1, 2, 0] rfl ?_
  refine z_iconst (pc := 2) (v := 0) F dX3_readDigits_2 (by decide) ?_
  refine z_istore_n (pc := 3) (lv' := [(0, .ref (r 0)), (1, .int (nI mo)), (2, .int 0), (3, .int 0)]) F dX3_readDigits_3 rfl (by decide) [1, 2, 3, 0] rfl ?_
  have L4 : ∀ (N : Nat) (k : Nat) (p' : Nat) (v : Nat), (mo - k) < N → (k ≤ mo) → (p' ≤ tp) → (dgs sx (mo - k) p' v = (dgs sx mo p 0)) → Z X (0) (0) (rdw E r (rt 0) (.ref (rp 0)) (mrd S (nI p')) ++ tpw E rt ST ++ plw E rp SP) [(0, .ref (r 0)), (1, .int (nI mo)), (2, .int (nI v)), (3, .int (nI k))] 4 [] := by
    intro N
    induction N with
    | zero => intro k p' v hN; exact absurd hN (Nat.not_lt_zero _)
    | succ N ih4 =>
      intro k p' v hN hk hpp hdg
      refine z_iload_n (pc := 4) F dX3_readDigits_4 rfl 3 rfl ?_
      refine z_iload_n (pc := 5) F dX3_readDigits_5 rfl 1 rfl ?_
      refine z_icmp_ge (pc := 6) (tgt := 48) F dX3_readDigits_6 (by decide) (fun c6 => ?_) (fun c6 => ?_)
      · have hkm : k = mo := Nat.le_antisymm hk (gI (by omega) (by omega) c6)
        subst hkm
        rw [Nat.sub_self, show dgs sx 0 p' v = (p', v) from rfl] at hdg
        refine z_iload_n (pc := 48) F dX3_readDigits_48 rfl 2 rfl ?_
        exact z_iret (pc := 49) F hR dX3_readDigits_49 (Nat.le_of_ble_eq_true rfl) (Nat.le_of_ble_eq_true rfl) ⟨by rw [← hdg], by rw [← hdg]⟩
      · have hkm := ngI (by omega) (by omega) c6
        refine z_aload_n (pc := 9) F dX3_readDigits_9 rfl 0 rfl ?_
        refine z_callVW (pc := 10) (q0 := 0) (ci := 3) (rest := []) F (c_X3_peek l E r rt rp S ST SP tp sx p' ht hpp) 0 ww_Reader_51 (by decide +kernel) rfl ⟨Nat.le_of_ble_eq_true rfl, Nat.le_of_ble_eq_true rfl⟩ ⟨Nat.le_of_ble_eq_true rfl, Nat.le_of_ble_eq_true rfl⟩ rfl rfl rfl rfl (Nat.le_of_ble_eq_true rfl) dX3_readDigits_10 (fun v_ w1_ hp => ?_)
        obtain ⟨rfl, rfl⟩ := hp
        show Z X (0) (0) (rdw E r (rt 0) (.ref (rp 0)) (mrd S (nI p')) ++ tpw E rt ST ++ plw E rp SP) [(0, .ref (r 0)), (1, .int (nI mo)), (2, .int (nI v)), (3, .int (nI k))] 13 [.int (nI (sx p'))]
        refine z_callS0 (pc := 13) (rest := []) F (c_X3_isDigit l E (sx p') (hsx p')) 1 ww_Reader_111 (by decide +kernel) rfl ⟨Nat.le_of_ble_eq_true rfl, Nat.le_of_ble_eq_true rfl⟩ ⟨Nat.le_of_ble_eq_true rfl, Nat.le_of_ble_eq_true rfl⟩ rfl (Nat.le_of_ble_eq_true rfl) dX3_readDigits_13 (fun v_ w1_ hp => ?_)
        obtain ⟨rfl, rfl⟩ := hp
        show Z X (0) (0) (rdw E r (rt 0) (.ref (rp 0)) (mrd S (nI p')) ++ tpw E rt ST ++ plw E rp SP) [(0, .ref (r 0)), (1, .int (nI mo)), (2, .int (nI v)), (3, .int (nI k))] 16 [.int (bI (isD (sx p')))]
        refine z_if_eq (pc := 16) (tgt := 48) F dX3_readDigits_16 (by decide) (fun c16 => ?_) (fun c16 => ?_)
        · replace c16 := bI_f c16
          rw [dgs_stop c16] at hdg
          refine z_iload_n (pc := 48) F dX3_readDigits_48 rfl 2 rfl ?_
          exact z_iret (pc := 49) F hR dX3_readDigits_49 (Nat.le_of_ble_eq_true rfl) (Nat.le_of_ble_eq_true rfl) ⟨by rw [← hdg], by rw [← hdg]⟩
        · replace c16 := bI_t c16
          have hd8 := isD_t c16
          have hlt : p' < tp := sx_lt h0 (by omega)
          rw [dgs_g2 c16 hkm] at hdg
          refine z_iload_n (pc := 19) F dX3_readDigits_19 rfl 2 rfl ?_
          refine z_bipush (pc := 20) (v := 10) F dX3_readDigits_20 (by decide) ?_
          refine z_imul (pc := 22) F dX3_readDigits_22 ?_
          rw [show ((nI v) * 10) = nI (v * 10) from (mulL v 10)]
          refine z_aload_n (pc := 23) F dX3_readDigits_23 rfl 0 rfl ?_
          refine z_callVW (pc := 24) (q0 := 0) (ci := 3) (rest := [.int (nI (v * 10))]) F (c_X3_peek l E r rt rp S ST SP tp sx p' ht hpp) 0 ww_Reader_51 (by decide +kernel) rfl ⟨Nat.le_of_ble_eq_true rfl, Nat.le_of_ble_eq_true rfl⟩ ⟨Nat.le_of_ble_eq_true rfl, Nat.le_of_ble_eq_true rfl⟩ rfl rfl rfl rfl (Nat.le_of_ble_eq_true rfl) dX3_readDigits_24 (fun v_ w1_ hp => ?_)
          obtain ⟨rfl, rfl⟩ := hp
          show Z X (0) (0) (rdw E r (rt 0) (.ref (rp 0)) (mrd S (nI p')) ++ tpw E rt ST ++ plw E rp SP) [(0, .ref (r 0)), (1, .int (nI mo)), (2, .int (nI v)), (3, .int (nI k))] 27 [.int (nI (sx p')), .int (nI (v * 10))]
          refine z_bipush (pc := 27) (v := 48) F dX3_readDigits_27 (by decide) ?_
          refine z_isub (pc := 29) F dX3_readDigits_29 ?_
          rw [show ((nI (sx p')) - 48) = nI (sx p' - 48) from (pk_sub (b := 48) hd8.1)]
          refine z_iadd (pc := 30) F dX3_readDigits_30 ?_
          rw [show ((nI (v * 10)) + (nI (sx p' - 48))) = nI (10 * v + sx p' - 48) from (by rw [nI_add]; congr 1; omega)]
          refine z_istore_n (pc := 31) (lv' := [(0, .ref (r 0)), (1, .int (nI mo)), (2, .int (nI (10 * v + sx p' - 48))), (3, .int (nI k))]) F dX3_readDigits_31 rfl (by decide) [1, 2, 0, 3] rfl ?_
          refine z_aload_n (pc := 32) F dX3_readDigits_32 rfl 0 rfl ?_
          refine z_dup (pc := 33) F dX3_readDigits_33 rfl ?_
          refine z_get (pc := 34) (v := .int (nI p')) F iX3 0 rfl rfl 2 (by decide) tw_149 rfl dX3_readDigits_34 ?_
          refine z_iconst (pc := 37) (v := 1) F dX3_readDigits_37 (by decide) ?_
          refine z_iadd (pc := 38) F dX3_readDigits_38 ?_
          rw [show ((nI p') + 1) = nI (p' + 1) from (nI_1 _)]
          refine z_put (pc := 39) (ws' := rdw E r (rt 0) (.ref (rp 0)) (mrd S (nI (p' + 1))) ++ tpw E rt ST ++ plw E rp SP) F iX3 tyX3 tyX3_ok nmX3 0 rfl rfl 2 (by decide) tw_149 rfl rfl rfl (Nat.le_of_ble_eq_true rfl) dX3_readDigits_39 rfl ?_
          refine z_iinc (pc := 42) (v := nI (k + 1)) (lv' := [(0, .ref (r 0)), (1, .int (nI mo)), (2, .int (nI (10 * v + sx p' - 48))), (3, .int (nI (k + 1)))]) F (j := 3) dX3_readDigits_42 rfl (nI_1 _) (by decide) [1, 2, 3, 0] rfl ?_
          refine z_goto (pc := 45) (tgt := 4) F dX3_readDigits_45 (by decide) ?_
          exact ih4 (k + 1) (p' + 1) _ (by omega) (by omega) (by omega) hdg
  exact L4 _ 0 p 0 (Nat.lt_succ_self _) (Nat.zero_le _) hp rfl

set_option maxHeartbeats 4000000 in
set_option maxRecDepth 100000 in
theorem c_X8_end (l : Launch) (E : zE) (r : Nat → Nat) (S : zS) (nq : Nat) (at_ : Int32) (a : Nat) (op : Int32) (cd : Nat → Int32) (nm : Nat → Int32) (of : Nat → Int32) (fr : Nat → Int32) (en : Nat → Int32) (f : Nat) (hn6 : nq < 6) (hn3 : zi S 3 = nI nq) (ha : a < 240) (hf : f < 4) : Ct l yX8_end cX8_end 2 (none) ({ frames := 0, cells := 0, slots := 0, locals := 0 } : Room) E (mw E r (mrq S at_ (nI a) op cd nm of fr en)) [.ref (r 0), .int (nI f)] (fun v_ w_ => v_ = none ∧ w_ = mw E r (mrq S at_ (nI a) op cd nm of fr (upd en (4 * nq + f) (nI (240 * nq + a))))) := by
  refine Ct.of (by decide) (Nat.le_of_ble_eq_true rfl) (lv := [(0, .ref (r 0)), (1, .int (nI f))]) rfl ?_
  intro X F hR
  have F : zF X l ({ frames := 0, cells := 0, slots := 0, locals := 0 } : Room) E cX8_end 2 "LiveQueriesModel" := F
  refine z_aload_n (pc := 0) F dX8_end_0 rfl 0 rfl ?_
  refine z_get (pc := 1) (v := .ref (r 10)) F iX8 0 rfl rfl 13 (by decide) tw_871 rfl dX8_end_1 ?_
  refine z_iconst (pc := 4) (v := 4) F dX8_end_4 (by decide) ?_
  refine z_aload_n (pc := 5) F dX8_end_5 rfl 0 rfl ?_
  refine z_get (pc := 6) (v := .int (zi S 3)) F iX8 0 rfl rfl 10 (by decide) tw_868 rfl dX8_end_6 ?_
  rw [show (zi S 3) = nI nq from hn3]
  refine z_imul (pc := 9) F dX8_end_9 ?_
  refine z_iload_n (pc := 10) F dX8_end_10 rfl 1 rfl ?_
  refine z_iadd (pc := 11) F dX8_end_11 ?_
  refine z_sipush (pc := 12) (v := 240) F dX8_end_12 (by decide) ?_
  refine z_aload_n (pc := 15) F dX8_end_15 rfl 0 rfl ?_
  refine z_get (pc := 16) (v := .int (zi S 3)) F iX8 0 rfl rfl 10 (by decide) tw_868 rfl dX8_end_16 ?_
  rw [show (zi S 3) = nI nq from hn3]
  refine z_imul (pc := 19) F dX8_end_19 ?_
  refine z_aload_n (pc := 20) F dX8_end_20 rfl 0 rfl ?_
  refine z_get (pc := 21) (v := .int (nI a)) F iX8 0 rfl rfl 36 (by decide) tw_894 rfl dX8_end_21 ?_
  refine z_iadd (pc := 24) F dX8_end_24 ?_
  rw [show ((240 * (nI nq)) + (nI a)) = nI (240 * nq + a) from (ix240 nq a)]
  refine z_iastN (pc := 25) (ws' := mw E r (mrq S at_ (nI a) op cd nm of fr (upd en (4 * nq + f) (nI (240 * nq + a))))) (f := en) F 10 0 rfl rfl (4 * nq + f) (ix4 nq f) (by omega) (by decide) dX8_end_25 rfl ?_
  exact z_vret (pc := 26) F hR dX8_end_26 (Nat.le_of_ble_eq_true rfl) (Nat.le_of_ble_eq_true rfl) ⟨rfl, rfl⟩
set_option maxHeartbeats 4000000 in
set_option maxRecDepth 100000 in
theorem c_X8_readQuery (l : Launch) (E : zE) (r : Nat → Nat) (S : zS) (nq : Nat) (tp : Nat) (sx : Nat → Nat) (cd : Nat → Int32) (nm : Nat → Int32) (of : Nat → Int32) (fr : Nat → Int32) (en : Nat → Int32) (R : zQr) (ht : tpo S tp sx) (hn6 : nq < 6) (hn3 : zi S 3 = nI nq) (hQ : rq sx 1000 = some R) : Ct l yX8_readQuery cX8_readQuery 2 (some .boolean) ({ frames := 1010, cells := 0, slots := 0, locals := 40200 } : Room) E (mw E r (mrq S (nI 0) (nI 0) (nI 0) cd nm of fr en)) [.ref (r 0)] (fun v_ w_ => ∃ ac : Int32, ∃ op : Int32, ∃ cd' : Nat → Int32, ∃ nm' : Nat → Int32, ∃ of' : Nat → Int32, ∃ fr' : Nat → Int32, ∃ en' : Nat → Int32, v_ = some (.int (bI R.1)) ∧ w_ = mw E r (mrq S (nI R.2.1) ac op cd' nm' of' fr' en') ∧ (qbl nq cd nm of fr en cd' nm' of' fr' en') ∧ (R.1 = true → qdone sx nq R cd' nm' of' fr' en')) := by
  refine Ct.of (by decide) (Nat.le_of_ble_eq_true rfl) (lv := [(0, .ref (r 0))]) rfl ?_
  intro X F hR
  have F : zF X l ({ frames := 1010, cells := 0, slots := 0, locals := 40200 } : Room) E cX8_readQuery 2 "LiveQueriesModel" := F
  have htp := ht.2.1
  have hsx := ht.2.2.2.2
  have h0 := ht.2.2.2.1
  have hsx0 := hsx 0
  have J243 : ∀ (p4 : Nat) (d : Nat) (a4 : Nat) (c0 : List (Nat × Nat)) (c1 : List (Nat × Nat)) (c2 : List (Nat × Nat)) (c3 : List (Nat × Nat)) (cd4 : Nat → Int32) (nm4 : Nat → Int32) (fr4 : Nat → Int32) (en4 : Nat → Int32), (rq4 sx p4 d c0 c1 c2 c3 = some R) → (p4 ≤ tp) → (a4 = (((c0 ++ c1) ++ c2) ++ c3).length) → (a4 ≤ 2 * p4) → (laid cd4 nm4 (240 * nq) (((c0 ++ c1) ++ c2) ++ c3)) → (qbl nq cd nm of fr en cd4 nm4 (upd of nq (nI (sx 0 - 48))) fr4 en4) → (fr4 nq = nI d) → (en4 (4 * nq) = nI (240 * nq + c0.length)) → (en4 (4 * nq + 1) = nI (240 * nq + (c0 ++ c1).length)) → (en4 (4 * nq + 2) = nI (240 * nq + ((c0 ++ c1) ++ c2).length)) → Z X (0) (0) (mw E r (mrq S (nI p4) (nI a4) (nI 0) cd4 nm4 (upd of nq (nI (sx 0 - 48))) fr4 en4)) [(0, .ref (r 0))] 243 [] := by
    intro p4 d a4 c0 c1 c2 c3 cd4 nm4 fr4 en4 hQ4 hp4 ha4 hb4 hl4 hq4 hf4 he4_0 he4_1 he4_2
    refine z_aload_n (pc := 243) F dX8_readQuery_243 rfl 0 rfl ?_
    refine z_iconst (pc := 244) (v := 3) F dX8_readQuery_244 (by decide) ?_
    refine z_callVW (pc := 245) (q0 := 0) (ci := 8) (rest := []) F (c_X8_end l E r S nq (nI p4) a4 (nI 0) cd4 nm4 (upd of nq (nI (sx 0 - 48))) fr4 en4 3 hn6 hn3 (by omega) (by decide)) 1 ww_Model_229 (by decide +kernel) rfl (by constructor <;> (dsimp only; omega)) ⟨Nat.le_of_ble_eq_true rfl, Nat.le_of_ble_eq_true rfl⟩ rfl rfl rfl rfl (Nat.le_of_ble_eq_true rfl) dX8_readQuery_245 (fun v_ w1_ hp => ?_)
    obtain ⟨rfl, rfl⟩ := hp
    show Z X (0) (0) (mw E r (mrq S (nI p4) (nI a4) (nI 0) cd4 nm4 (upd of nq (nI (sx 0 - 48))) fr4 (upd en4 (4 * nq + 3) (nI (240 * nq + a4))))) [(0, .ref (r 0))] 248 []
    refine z_aload_n (pc := 248) F dX8_readQuery_248 rfl 0 rfl ?_
    refine z_callVW (pc := 249) (q0 := 0) (ci := 8) (rest := []) F (c_X8_see l E r (zq3 S (upd of nq (nI (sx 0 - 48))) fr4 (upd en4 (4 * nq + 3) (nI (240 * nq + a4)))) tp sx p4 (nI a4) (nI 0) cd4 nm4 ht hp4) 0 ww_Model_180 (by decide +kernel) rfl (by constructor <;> (dsimp only; omega)) ⟨Nat.le_of_ble_eq_true rfl, Nat.le_of_ble_eq_true rfl⟩ rfl rfl rfl rfl (Nat.le_of_ble_eq_true rfl) dX8_readQuery_249 (fun v_ w1_ hp => ?_)
    obtain ⟨rfl, rfl⟩ := hp
    show Z X (0) (0) (mw E r (mrq S (nI p4) (nI a4) (nI 0) cd4 nm4 (upd of nq (nI (sx 0 - 48))) fr4 (upd en4 (4 * nq + 3) (nI (240 * nq + a4))))) [(0, .ref (r 0))] 252 [.int (nI (sx p4))]
    refine z_if_ne (pc := 252) (tgt := 259) F dX8_readQuery_252 (by decide) (fun c252 => ?_) (fun c252 => ?_)
    · have k252 : ¬ sx p4 = 0 := fun h => c252 (by rw [h]; rfl)
      refine z_iconst (pc := 259) (v := 0) F dX8_readQuery_259 (by decide) ?_
      exact z_zret (pc := 260) F hR rfl dX8_readQuery_260 (Nat.le_of_ble_eq_true rfl) (Nat.le_of_ble_eq_true rfl) (by rw [rq4, decide_eq_false k252] at hQ4; cases hQ4; exact ⟨_, _, _, _, _, _, _, rfl, rfl, qbl_en hq4 (j := 4 * nq + 3) (by omega) _, fun h => Bool.noConfusion h⟩)
    · have k252 : sx p4 = 0 := nIe (b := 0) (by have := hsx p4; omega) (by decide) c252
      refine z_iconst (pc := 255) (v := 1) F dX8_readQuery_255 (by decide) ?_
      refine z_goto (pc := 256) (tgt := 260) F dX8_readQuery_256 (by decide) ?_
      exact z_zret (pc := 260) F hR rfl dX8_readQuery_260 (Nat.le_of_ble_eq_true rfl) (Nat.le_of_ble_eq_true rfl) (by rw [rq4, decide_eq_true k252] at hQ4; cases hQ4; exact ⟨_, _, _, _, _, _, _, rfl, rfl, qbl_en hq4 (j := 4 * nq + 3) (by omega) _, fun _ => ⟨c0, c1, c2, c3, rfl, hl4, by omega, pk_us, hf4, by rw [pk_un (by omega)]; exact he4_0, by rw [pk_un (by omega)]; exact he4_1, by rw [pk_un (by omega)]; exact he4_2, by rw [pk_us, ha4]⟩⟩)
  have J213 : ∀ (p3 : Nat) (d : Nat) (a3 : Nat) (c0 : List (Nat × Nat)) (c1 : List (Nat × Nat)) (c2 : List (Nat × Nat)) (cd3 : Nat → Int32) (nm3 : Nat → Int32) (fr3 : Nat → Int32) (en3 : Nat → Int32), (rq3 sx 1000 p3 d c0 c1 c2 = some R) → (p3 ≤ tp) → (a3 = ((c0 ++ c1) ++ c2).length) → (a3 ≤ 2 * p3) → (laid cd3 nm3 (240 * nq) ((c0 ++ c1) ++ c2)) → (qbl nq cd nm of fr en cd3 nm3 (upd of nq (nI (sx 0 - 48))) fr3 en3) → (fr3 nq = nI d) → (en3 (4 * nq) = nI (240 * nq + c0.length)) → (en3 (4 * nq + 1) = nI (240 * nq + (c0 ++ c1).length)) → Z X (0) (0) (mw E r (mrq S (nI p3) (nI a3) (nI 0) cd3 nm3 (upd of nq (nI (sx 0 - 48))) fr3 en3)) [(0, .ref (r 0))] 213 [] := by
    intro p3 d a3 c0 c1 c2 cd3 nm3 fr3 en3 hQ3 hp3 ha3 hb3 hl3 hq3 hf3 he3_0 he3_1
    refine z_aload_n (pc := 213) F dX8_readQuery_213 rfl 0 rfl ?_
    refine z_iconst (pc := 214) (v := 2) F dX8_readQuery_214 (by decide) ?_
    refine z_callVW (pc := 215) (q0 := 0) (ci := 8) (rest := []) F (c_X8_end l E r S nq (nI p3) a3 (nI 0) cd3 nm3 (upd of nq (nI (sx 0 - 48))) fr3 en3 2 hn6 hn3 (by omega) (by decide)) 1 ww_Model_229 (by decide +kernel) rfl (by constructor <;> (dsimp only; omega)) ⟨Nat.le_of_ble_eq_true rfl, Nat.le_of_ble_eq_true rfl⟩ rfl rfl rfl rfl (Nat.le_of_ble_eq_true rfl) dX8_readQuery_215 (fun v_ w1_ hp => ?_)
    obtain ⟨rfl, rfl⟩ := hp
    show Z X (0) (0) (mw E r (mrq S (nI p3) (nI a3) (nI 0) cd3 nm3 (upd of nq (nI (sx 0 - 48))) fr3 (upd en3 (4 * nq + 2) (nI (240 * nq + a3))))) [(0, .ref (r 0))] 218 []
    refine z_aload_n (pc := 218) F dX8_readQuery_218 rfl 0 rfl ?_
    refine z_bipush (pc := 219) (v := 59) F dX8_readQuery_219 (by decide) ?_
    rcases Classical.em (sx p3 = 59) with k221 | k221
    · have hlt221 : p3 < tp := sx_lt h0 (by omega)
      rw [rq3, if_pos k221] at hQ3
      refine z_callVW (pc := 221) (q0 := 0) (ci := 8) (rest := []) F (c_X8_want_y l E r (zq3 S (upd of nq (nI (sx 0 - 48))) fr3 (upd en3 (4 * nq + 2) (nI (240 * nq + a3)))) tp sx p3 (nI a3) (nI 0) cd3 nm3 59 ht (by omega) (by decide) k221) 1 ww_Model_189 (by decide +kernel) rfl (by constructor <;> (dsimp only; omega)) ⟨Nat.le_of_ble_eq_true rfl, Nat.le_of_ble_eq_true rfl⟩ rfl rfl rfl rfl (Nat.le_of_ble_eq_true rfl) dX8_readQuery_221 (fun v_ w1_ hp => ?_)
      obtain ⟨rfl, rfl⟩ := hp
      show Z X (0) (0) (mw E r (mrq S (nI (p3 + 1)) (nI a3) (nI 0) cd3 nm3 (upd of nq (nI (sx 0 - 48))) fr3 (upd en3 (4 * nq + 2) (nI (240 * nq + a3))))) [(0, .ref (r 0))] 224 [.int (bI true)]
      rw [show (bI true) = 1 from rfl]
      refine z_if_eq (pc := 224) (tgt := 241) F dX8_readQuery_224 (by decide) (fun h => absurd h (by decide)) (fun _ => ?_)
      refine z_aload_n (pc := 227) F dX8_readQuery_227 rfl 0 rfl ?_
      refine z_callVW (pc := 228) (q0 := 0) (ci := 8) (rest := []) F (c_X8_see l E r (zq3 S (upd of nq (nI (sx 0 - 48))) fr3 (upd en3 (4 * nq + 2) (nI (240 * nq + a3)))) tp sx (p3 + 1) (nI a3) (nI 0) cd3 nm3 ht (by omega)) 0 ww_Model_180 (by decide +kernel) rfl (by constructor <;> (dsimp only; omega)) ⟨Nat.le_of_ble_eq_true rfl, Nat.le_of_ble_eq_true rfl⟩ rfl rfl rfl rfl (Nat.le_of_ble_eq_true rfl) dX8_readQuery_228 (fun v_ w1_ hp => ?_)
      obtain ⟨rfl, rfl⟩ := hp
      show Z X (0) (0) (mw E r (mrq S (nI (p3 + 1)) (nI a3) (nI 0) cd3 nm3 (upd of nq (nI (sx 0 - 48))) fr3 (upd en3 (4 * nq + 2) (nI (240 * nq + a3))))) [(0, .ref (r 0))] 231 [.int (nI (sx (p3 + 1)))]
      refine z_if_eq (pc := 231) (tgt := 243) F dX8_readQuery_231 (by decide) (fun c231 => ?_) (fun c231 => ?_)
      · have k231 : sx (p3 + 1) = 0 := nIe (b := 0) (by have := hsx (p3 + 1); omega) (by decide) c231
        rw [optP, if_pos k231] at hQ3; exact J243 (p3 + 1) d a3 c0 c1 c2 [] cd3 nm3 fr3 _ hQ3 (by omega) (by rw [List.append_nil]; exact ha3) (by omega) (by rw [List.append_nil]; exact hl3) (qbl_en hq3 (j := 4 * nq + 2) (by omega) _) hf3 (by show upd en3 (4 * nq + 2) _ (4 * nq) = _; rw [pk_un (by omega)]; exact he3_0) (by show upd en3 (4 * nq + 2) _ (4 * nq + 1) = _; rw [pk_un (by omega)]; exact he3_1) (by show upd en3 (4 * nq + 2) _ (4 * nq + 2) = _; rw [pk_us, ha3])
      · have k231 : ¬ sx (p3 + 1) = 0 := fun h => c231 (by rw [h]; rfl)
        refine z_aload_n (pc := 234) F dX8_readQuery_234 rfl 0 rfl ?_
        obtain ⟨⟨b3, q3, e3⟩, hs3⟩ := ps_t h0 1000 5 (p3 + 1) 0 (by decide) (by omega) (by simp [rnk]; omega); cases b3
        · rw [optP, if_neg k231, hs3] at hQ3
          refine z_callVW (pc := 235) (q0 := 0) (ci := 8) (rest := []) F (pC_n (p_all l E r (zq3 S (upd of nq (nI (sx 0 - 48))) fr3 (upd en3 (4 * nq + 2) (nI (240 * nq + a3)))) nq tp sx ht hn6 hn3 1000).2.2.2.1 hs3 (by omega) (by omega) (by decide)) 0 ww_Model_202 (by decide +kernel) rfl (by constructor <;> (dsimp only; omega)) ⟨Nat.le_of_ble_eq_true rfl, Nat.le_of_ble_eq_true rfl⟩ rfl rfl rfl rfl (Nat.le_of_ble_eq_true rfl) dX8_readQuery_235 (fun v_ w1_ hp => ?_)
          obtain ⟨ax3, ox3, cx3, nx3, rfl, rfl, hA3⟩ := hp
          show Z X (0) (0) (mw E r (mrq S (nI q3) ax3 ox3 cx3 nx3 (upd of nq (nI (sx 0 - 48))) fr3 (upd en3 (4 * nq + 2) (nI (240 * nq + a3))))) [(0, .ref (r 0))] 238 [.int 0]
          refine z_if_ne (pc := 238) (tgt := 243) F dX8_readQuery_238 (by decide) (fun h => absurd h (by decide)) (fun _ => ?_)
          refine z_iconst (pc := 241) (v := 0) F dX8_readQuery_241 (by decide) ?_
          exact z_zret (pc := 242) F hR rfl dX8_readQuery_242 (Nat.le_of_ble_eq_true rfl) (Nat.le_of_ble_eq_true rfl) (by skip; cases hQ3; exact ⟨_, _, _, _, _, _, _, rfl, rfl, qbl_cd (qbl_en hq3 (j := 4 * nq + 2) (by omega) _) (by omega) hA3, fun h => Bool.noConfusion h⟩)
        · rw [optP, if_neg k231, hs3] at hQ3
          have bb3 : (p3 + 1) ≤ q3 ∧ ((p3 + 1) ≤ tp → q3 ≤ tp) ∧ e3.length ≤ 2 * (q3 - (p3 + 1)) := by simpa [bnd] using ps_b h0 _ _ _ _ _ (by decide) hs3
          refine z_callVW (pc := 235) (q0 := 0) (ci := 8) (rest := []) F (pC_y (p_all l E r (zq3 S (upd of nq (nI (sx 0 - 48))) fr3 (upd en3 (4 * nq + 2) (nI (240 * nq + a3)))) nq tp sx ht hn6 hn3 1000).2.2.2.1 hs3 (by omega) (by omega) (by decide)) 0 ww_Model_202 (by decide +kernel) rfl (by constructor <;> (dsimp only; omega)) ⟨Nat.le_of_ble_eq_true rfl, Nat.le_of_ble_eq_true rfl⟩ rfl rfl rfl rfl (Nat.le_of_ble_eq_true rfl) dX8_readQuery_235 (fun v_ w1_ hp => ?_)
          obtain ⟨cx3, nx3, rfl, rfl, hA3, hL3⟩ := hp
          show Z X (0) (0) (mw E r (mrq S (nI q3) (nI (a3 + e3.length)) (nI 0) cx3 nx3 (upd of nq (nI (sx 0 - 48))) fr3 (upd en3 (4 * nq + 2) (nI (240 * nq + a3))))) [(0, .ref (r 0))] 238 [.int 1]
          refine z_if_ne (pc := 238) (tgt := 243) F dX8_readQuery_238 (by decide) (fun _ => ?_) (fun h => absurd h (by decide))
          exact J243 q3 d (a3 + e3.length) c0 c1 c2 e3 cx3 nx3 fr3 _ hQ3 (by omega) (by rw [List.length_append]; omega) (by omega) (lq_app hl3 ha3 hA3 hL3) (qbl_cd (qbl_en hq3 (j := 4 * nq + 2) (by omega) _) (by omega) hA3) hf3 (by show upd en3 (4 * nq + 2) _ (4 * nq) = _; rw [pk_un (by omega)]; exact he3_0) (by show upd en3 (4 * nq + 2) _ (4 * nq + 1) = _; rw [pk_un (by omega)]; exact he3_1) (by show upd en3 (4 * nq + 2) _ (4 * nq + 2) = _; rw [pk_us, ha3])
    · rw [rq3, if_neg k221] at hQ3
      refine z_callVW (pc := 221) (q0 := 0) (ci := 8) (rest := []) F (c_X8_want_n l E r (zq3 S (upd of nq (nI (sx 0 - 48))) fr3 (upd en3 (4 * nq + 2) (nI (240 * nq + a3)))) tp sx p3 (nI a3) (nI 0) cd3 nm3 59 ht (by omega) (by decide) k221) 1 ww_Model_189 (by decide +kernel) rfl (by constructor <;> (dsimp only; omega)) ⟨Nat.le_of_ble_eq_true rfl, Nat.le_of_ble_eq_true rfl⟩ rfl rfl rfl rfl (Nat.le_of_ble_eq_true rfl) dX8_readQuery_221 (fun v_ w1_ hp => ?_)
      obtain ⟨rfl, rfl⟩ := hp
      show Z X (0) (0) (mw E r (mrq S (nI p3) (nI a3) (nI 0) cd3 nm3 (upd of nq (nI (sx 0 - 48))) fr3 (upd en3 (4 * nq + 2) (nI (240 * nq + a3))))) [(0, .ref (r 0))] 224 [.int (bI false)]
      rw [show (bI false) = 0 from rfl]
      refine z_if_eq (pc := 224) (tgt := 241) F dX8_readQuery_224 (by decide) (fun _ => ?_) (fun h => absurd h (by decide))
      refine z_iconst (pc := 241) (v := 0) F dX8_readQuery_241 (by decide) ?_
      exact z_zret (pc := 242) F hR rfl dX8_readQuery_242 (Nat.le_of_ble_eq_true rfl) (Nat.le_of_ble_eq_true rfl) (by skip; cases hQ3; exact ⟨_, _, _, _, _, _, _, rfl, rfl, qbl_en hq3 (j := 4 * nq + 2) (by omega) _, fun h => Bool.noConfusion h⟩)
  have J186 : ∀ (p2 : Nat) (d : Nat) (a2 : Nat) (c0 : List (Nat × Nat)) (c1 : List (Nat × Nat)) (cd2 : Nat → Int32) (nm2 : Nat → Int32) (fr2 : Nat → Int32) (en2 : Nat → Int32), (rq2 sx 1000 p2 d c0 c1 = some R) → (p2 ≤ tp) → (a2 = (c0 ++ c1).length) → (a2 ≤ 2 * p2) → (laid cd2 nm2 (240 * nq) (c0 ++ c1)) → (qbl nq cd nm of fr en cd2 nm2 (upd of nq (nI (sx 0 - 48))) fr2 en2) → (fr2 nq = nI d) → (en2 (4 * nq) = nI (240 * nq + c0.length)) → (en2 (4 * nq + 1) = nI (240 * nq + (c0 ++ c1).length)) → Z X (0) (0) (mw E r (mrq S (nI p2) (nI a2) (nI 0) cd2 nm2 (upd of nq (nI (sx 0 - 48))) fr2 en2)) [(0, .ref (r 0))] 186 [] := by
    intro p2 d a2 c0 c1 cd2 nm2 fr2 en2 hQ2 hp2 ha2 hb2 hl2 hq2 hf2 he2_0 he2_1
    refine z_aload_n (pc := 186) F dX8_readQuery_186 rfl 0 rfl ?_
    refine z_bipush (pc := 187) (v := 59) F dX8_readQuery_187 (by decide) ?_
    rcases Classical.em (sx p2 = 59) with k189 | k189
    · have hlt189 : p2 < tp := sx_lt h0 (by omega)
      rw [rq2, if_pos k189] at hQ2
      refine z_callVW (pc := 189) (q0 := 0) (ci := 8) (rest := []) F (c_X8_want_y l E r (zq3 S (upd of nq (nI (sx 0 - 48))) fr2 en2) tp sx p2 (nI a2) (nI 0) cd2 nm2 59 ht (by omega) (by decide) k189) 1 ww_Model_189 (by decide +kernel) rfl (by constructor <;> (dsimp only; omega)) ⟨Nat.le_of_ble_eq_true rfl, Nat.le_of_ble_eq_true rfl⟩ rfl rfl rfl rfl (Nat.le_of_ble_eq_true rfl) dX8_readQuery_189 (fun v_ w1_ hp => ?_)
      obtain ⟨rfl, rfl⟩ := hp
      show Z X (0) (0) (mw E r (mrq S (nI (p2 + 1)) (nI a2) (nI 0) cd2 nm2 (upd of nq (nI (sx 0 - 48))) fr2 en2)) [(0, .ref (r 0))] 192 [.int (bI true)]
      rw [show (bI true) = 1 from rfl]
      refine z_if_eq (pc := 192) (tgt := 211) F dX8_readQuery_192 (by decide) (fun h => absurd h (by decide)) (fun _ => ?_)
      refine z_aload_n (pc := 195) F dX8_readQuery_195 rfl 0 rfl ?_
      refine z_callVW (pc := 196) (q0 := 0) (ci := 8) (rest := []) F (c_X8_see l E r (zq3 S (upd of nq (nI (sx 0 - 48))) fr2 en2) tp sx (p2 + 1) (nI a2) (nI 0) cd2 nm2 ht (by omega)) 0 ww_Model_180 (by decide +kernel) rfl (by constructor <;> (dsimp only; omega)) ⟨Nat.le_of_ble_eq_true rfl, Nat.le_of_ble_eq_true rfl⟩ rfl rfl rfl rfl (Nat.le_of_ble_eq_true rfl) dX8_readQuery_196 (fun v_ w1_ hp => ?_)
      obtain ⟨rfl, rfl⟩ := hp
      show Z X (0) (0) (mw E r (mrq S (nI (p2 + 1)) (nI a2) (nI 0) cd2 nm2 (upd of nq (nI (sx 0 - 48))) fr2 en2)) [(0, .ref (r 0))] 199 [.int (nI (sx (p2 + 1)))]
      refine z_bipush (pc := 199) (v := 59) F dX8_readQuery_199 (by decide) ?_
      refine z_icmp_eq (pc := 201) (tgt := 213) F dX8_readQuery_201 (by decide) (fun c201 => ?_) (fun c201 => ?_)
      · have k201 : sx (p2 + 1) = 59 := nIe (b := 59) (by have := hsx ((p2 + 1)); omega) (by decide) c201
        rw [optP, if_pos k201] at hQ2; exact J213 (p2 + 1) d a2 c0 c1 [] cd2 nm2 fr2 en2 hQ2 (by omega) (by rw [List.append_nil]; exact ha2) (by omega) (by rw [List.append_nil]; exact hl2) hq2 hf2 he2_0 he2_1
      · have k201 : ¬ sx (p2 + 1) = 59 := fun h => c201 (by rw [h]; rfl)
        refine z_aload_n (pc := 204) F dX8_readQuery_204 rfl 0 rfl ?_
        obtain ⟨⟨b2, q2, e2⟩, hs2⟩ := ps_t h0 1000 5 (p2 + 1) 0 (by decide) (by omega) (by simp [rnk]; omega); cases b2
        · rw [optP, if_neg k201, hs2] at hQ2
          refine z_callVW (pc := 205) (q0 := 0) (ci := 8) (rest := []) F (pC_n (p_all l E r (zq3 S (upd of nq (nI (sx 0 - 48))) fr2 en2) nq tp sx ht hn6 hn3 1000).2.2.2.1 hs2 (by omega) (by omega) (by decide)) 0 ww_Model_202 (by decide +kernel) rfl (by constructor <;> (dsimp only; omega)) ⟨Nat.le_of_ble_eq_true rfl, Nat.le_of_ble_eq_true rfl⟩ rfl rfl rfl rfl (Nat.le_of_ble_eq_true rfl) dX8_readQuery_205 (fun v_ w1_ hp => ?_)
          obtain ⟨ax2, ox2, cx2, nx2, rfl, rfl, hA2⟩ := hp
          show Z X (0) (0) (mw E r (mrq S (nI q2) ax2 ox2 cx2 nx2 (upd of nq (nI (sx 0 - 48))) fr2 en2)) [(0, .ref (r 0))] 208 [.int 0]
          refine z_if_ne (pc := 208) (tgt := 213) F dX8_readQuery_208 (by decide) (fun h => absurd h (by decide)) (fun _ => ?_)
          refine z_iconst (pc := 211) (v := 0) F dX8_readQuery_211 (by decide) ?_
          exact z_zret (pc := 212) F hR rfl dX8_readQuery_212 (Nat.le_of_ble_eq_true rfl) (Nat.le_of_ble_eq_true rfl) (by skip; cases hQ2; exact ⟨_, _, _, _, _, _, _, rfl, rfl, qbl_cd hq2 (by omega) hA2, fun h => Bool.noConfusion h⟩)
        · rw [optP, if_neg k201, hs2] at hQ2
          have bb2 : (p2 + 1) ≤ q2 ∧ ((p2 + 1) ≤ tp → q2 ≤ tp) ∧ e2.length ≤ 2 * (q2 - (p2 + 1)) := by simpa [bnd] using ps_b h0 _ _ _ _ _ (by decide) hs2
          refine z_callVW (pc := 205) (q0 := 0) (ci := 8) (rest := []) F (pC_y (p_all l E r (zq3 S (upd of nq (nI (sx 0 - 48))) fr2 en2) nq tp sx ht hn6 hn3 1000).2.2.2.1 hs2 (by omega) (by omega) (by decide)) 0 ww_Model_202 (by decide +kernel) rfl (by constructor <;> (dsimp only; omega)) ⟨Nat.le_of_ble_eq_true rfl, Nat.le_of_ble_eq_true rfl⟩ rfl rfl rfl rfl (Nat.le_of_ble_eq_true rfl) dX8_readQuery_205 (fun v_ w1_ hp => ?_)
          obtain ⟨cx2, nx2, rfl, rfl, hA2, hL2⟩ := hp
          show Z X (0) (0) (mw E r (mrq S (nI q2) (nI (a2 + e2.length)) (nI 0) cx2 nx2 (upd of nq (nI (sx 0 - 48))) fr2 en2)) [(0, .ref (r 0))] 208 [.int 1]
          refine z_if_ne (pc := 208) (tgt := 213) F dX8_readQuery_208 (by decide) (fun _ => ?_) (fun h => absurd h (by decide))
          exact J213 q2 d (a2 + e2.length) c0 c1 e2 cx2 nx2 fr2 en2 hQ2 (by omega) (by rw [List.length_append]; omega) (by omega) (lq_app hl2 ha2 hA2 hL2) (qbl_cd hq2 (by omega) hA2) hf2 he2_0 he2_1
    · rw [rq2, if_neg k189] at hQ2
      refine z_callVW (pc := 189) (q0 := 0) (ci := 8) (rest := []) F (c_X8_want_n l E r (zq3 S (upd of nq (nI (sx 0 - 48))) fr2 en2) tp sx p2 (nI a2) (nI 0) cd2 nm2 59 ht (by omega) (by decide) k189) 1 ww_Model_189 (by decide +kernel) rfl (by constructor <;> (dsimp only; omega)) ⟨Nat.le_of_ble_eq_true rfl, Nat.le_of_ble_eq_true rfl⟩ rfl rfl rfl rfl (Nat.le_of_ble_eq_true rfl) dX8_readQuery_189 (fun v_ w1_ hp => ?_)
      obtain ⟨rfl, rfl⟩ := hp
      show Z X (0) (0) (mw E r (mrq S (nI p2) (nI a2) (nI 0) cd2 nm2 (upd of nq (nI (sx 0 - 48))) fr2 en2)) [(0, .ref (r 0))] 192 [.int (bI false)]
      rw [show (bI false) = 0 from rfl]
      refine z_if_eq (pc := 192) (tgt := 211) F dX8_readQuery_192 (by decide) (fun _ => ?_) (fun h => absurd h (by decide))
      refine z_iconst (pc := 211) (v := 0) F dX8_readQuery_211 (by decide) ?_
      exact z_zret (pc := 212) F hR rfl dX8_readQuery_212 (Nat.le_of_ble_eq_true rfl) (Nat.le_of_ble_eq_true rfl) (by skip; cases hQ2; exact ⟨_, _, _, _, _, _, _, rfl, rfl, hq2, fun h => Bool.noConfusion h⟩)
  have J101 : ∀ (p1 : Nat) (a1 : Nat) (c0 : List (Nat × Nat)) (c1 : List (Nat × Nat)) (cd1 : Nat → Int32) (nm1 : Nat → Int32) (en1 : Nat → Int32), (rq1 sx 1000 p1 c0 c1 = some R) → (p1 ≤ tp) → (a1 = (c0 ++ c1).length) → (a1 ≤ 2 * p1) → (laid cd1 nm1 (240 * nq) (c0 ++ c1)) → (qbl nq cd nm of fr en cd1 nm1 (upd of nq (nI (sx 0 - 48))) fr en1) → (en1 (4 * nq) = nI (240 * nq + c0.length)) → Z X (0) (0) (mw E r (mrq S (nI p1) (nI a1) (nI 0) cd1 nm1 (upd of nq (nI (sx 0 - 48))) fr en1)) [(0, .ref (r 0))] 101 [] := by
    intro p1 a1 c0 c1 cd1 nm1 en1 hQ1 hp1 ha1 hb1 hl1 hq1 he1_0
    refine z_aload_n (pc := 101) F dX8_readQuery_101 rfl 0 rfl ?_
    refine z_iconst (pc := 102) (v := 1) F dX8_readQuery_102 (by decide) ?_
    refine z_callVW (pc := 103) (q0 := 0) (ci := 8) (rest := []) F (c_X8_end l E r S nq (nI p1) a1 (nI 0) cd1 nm1 (upd of nq (nI (sx 0 - 48))) fr en1 1 hn6 hn3 (by omega) (by decide)) 1 ww_Model_229 (by decide +kernel) rfl (by constructor <;> (dsimp only; omega)) ⟨Nat.le_of_ble_eq_true rfl, Nat.le_of_ble_eq_true rfl⟩ rfl rfl rfl rfl (Nat.le_of_ble_eq_true rfl) dX8_readQuery_103 (fun v_ w1_ hp => ?_)
    obtain ⟨rfl, rfl⟩ := hp
    show Z X (0) (0) (mw E r (mrq S (nI p1) (nI a1) (nI 0) cd1 nm1 (upd of nq (nI (sx 0 - 48))) fr (upd en1 (4 * nq + 1) (nI (240 * nq + a1))))) [(0, .ref (r 0))] 106 []
    refine z_aload_n (pc := 106) F dX8_readQuery_106 rfl 0 rfl ?_
    refine z_bipush (pc := 107) (v := 59) F dX8_readQuery_107 (by decide) ?_
    rcases Classical.em (sx p1 = 59) with k109 | k109
    · have hlt109 : p1 < tp := sx_lt h0 (by omega)
      rw [rq1, if_pos k109] at hQ1
      refine z_callVW (pc := 109) (q0 := 0) (ci := 8) (rest := []) F (c_X8_want_y l E r (zq3 S (upd of nq (nI (sx 0 - 48))) fr (upd en1 (4 * nq + 1) (nI (240 * nq + a1)))) tp sx p1 (nI a1) (nI 0) cd1 nm1 59 ht (by omega) (by decide) k109) 1 ww_Model_189 (by decide +kernel) rfl (by constructor <;> (dsimp only; omega)) ⟨Nat.le_of_ble_eq_true rfl, Nat.le_of_ble_eq_true rfl⟩ rfl rfl rfl rfl (Nat.le_of_ble_eq_true rfl) dX8_readQuery_109 (fun v_ w1_ hp => ?_)
      obtain ⟨rfl, rfl⟩ := hp
      show Z X (0) (0) (mw E r (mrq S (nI (p1 + 1)) (nI a1) (nI 0) cd1 nm1 (upd of nq (nI (sx 0 - 48))) fr (upd en1 (4 * nq + 1) (nI (240 * nq + a1))))) [(0, .ref (r 0))] 112 [.int (bI true)]
      rw [show (bI true) = 1 from rfl]
      refine z_if_ne (pc := 112) (tgt := 117) F dX8_readQuery_112 (by decide) (fun _ => ?_) (fun h => absurd h (by decide))
      refine z_aload_n (pc := 117) F dX8_readQuery_117 rfl 0 rfl ?_
      refine z_get (pc := 118) (v := .ref (r 9)) F iX8 0 rfl rfl 12 (by decide) tw_870 rfl dX8_readQuery_118 ?_
      refine z_aload_n (pc := 121) F dX8_readQuery_121 rfl 0 rfl ?_
      refine z_get (pc := 122) (v := .int (zi S 3)) F iX8 0 rfl rfl 10 (by decide) tw_868 rfl dX8_readQuery_122 ?_
      rw [show (zi S 3) = nI nq from hn3]
      refine z_iconst (pc := 125) (v := 0) F dX8_readQuery_125 (by decide) ?_
      refine z_iastN (pc := 126) (ws' := mw E r (mrq S (nI (p1 + 1)) (nI a1) (nI 0) cd1 nm1 (upd of nq (nI (sx 0 - 48))) (upd fr nq 0) (upd en1 (4 * nq + 1) (nI (240 * nq + a1))))) (f := fr) F 9 0 rfl rfl nq rfl (by omega) (by decide) dX8_readQuery_126 rfl ?_
      refine z_iconst (pc := 127) (v := 0) F dX8_readQuery_127 (by decide) ?_
      refine z_istore_n (pc := 128) (lv' := [(0, .ref (r 0)), (1, .int 0)]) F dX8_readQuery_128 rfl (by decide) [1, 0] rfl ?_
      refine z_iload_n (pc := 129) F dX8_readQuery_129 rfl 1 rfl ?_
      refine z_iconst (pc := 130) (v := 2) F dX8_readQuery_130 (by decide) ?_
      refine z_icmp_ge (pc := 131) (tgt := 186) F dX8_readQuery_131 (by decide) (fun h => absurd h (by decide)) (fun _ => ?_)
      refine z_aload_n (pc := 134) F dX8_readQuery_134 rfl 0 rfl ?_
      refine z_callVW (pc := 135) (q0 := 0) (ci := 8) (rest := []) F (c_X8_isDigit l E r (zq3 S (upd of nq (nI (sx 0 - 48))) (upd fr nq 0) (upd en1 (4 * nq + 1) (nI (240 * nq + a1)))) tp sx (p1 + 1) (nI a1) (nI 0) cd1 nm1 ht (by omega)) 0 ww_Model_192 (by decide +kernel) rfl (by constructor <;> (dsimp only; omega)) ⟨Nat.le_of_ble_eq_true rfl, Nat.le_of_ble_eq_true rfl⟩ rfl rfl rfl rfl (Nat.le_of_ble_eq_true rfl) dX8_readQuery_135 (fun v_ w1_ hp => ?_)
      obtain ⟨rfl, rfl⟩ := hp
      show Z X (0) (0) (mw E r (mrq S (nI (p1 + 1)) (nI a1) (nI 0) cd1 nm1 (upd of nq (nI (sx 0 - 48))) (upd fr nq 0) (upd en1 (4 * nq + 1) (nI (240 * nq + a1))))) [(0, .ref (r 0)), (1, .int 0)] 138 [.int (bI (isD (sx (p1 + 1))))]
      refine z_if_eq (pc := 138) (tgt := 186) F dX8_readQuery_138 (by decide) (fun c138 => ?_) (fun c138 => ?_)
      · replace c138 := bI_f c138
        have d0 := c138
        refine z_locals (lv' := [(0, .ref (r 0))]) [0] rfl ?_; have ed : dgs sx 2 (p1 + 1) 0 = (p1 + 1, 0) := (by simp [dgs, d0]); rw [ed] at hQ1; exact J186 (p1 + 1) (0) a1 c0 c1 cd1 nm1 _ _ hQ1 (by omega) ha1 (by omega) hl1 (qbl_fr (qbl_en hq1 (j := 4 * nq + 1) (by omega) _) _) (by rw [pk_us]; rfl) (by show upd en1 (4 * nq + 1) _ (4 * nq) = _; rw [pk_un (by omega)]; exact he1_0) (by show upd en1 (4 * nq + 1) _ (4 * nq + 1) = _; rw [pk_us, ha1])
      · replace c138 := bI_t c138
        have d0 := c138
        have dd0 := isD_t c138
        have hlt0 : p1 + 1 < tp := sx_lt h0 (by omega)
        obtain ⟨v1, hv1⟩ : ∃ v1, v1 = 10 * 0 + sx (p1 + 1) - 48 := ⟨_, rfl⟩
        refine z_aload_n (pc := 141) F dX8_readQuery_141 rfl 0 rfl ?_
        refine z_get (pc := 142) (v := .ref (r 9)) F iX8 0 rfl rfl 12 (by decide) tw_870 rfl dX8_readQuery_142 ?_
        refine z_aload_n (pc := 145) F dX8_readQuery_145 rfl 0 rfl ?_
        refine z_get (pc := 146) (v := .int (zi S 3)) F iX8 0 rfl rfl 10 (by decide) tw_868 rfl dX8_readQuery_146 ?_
        rw [show (zi S 3) = nI nq from hn3]
        refine z_bipush (pc := 149) (v := 10) F dX8_readQuery_149 (by decide) ?_
        refine z_aload_n (pc := 151) F dX8_readQuery_151 rfl 0 rfl ?_
        refine z_get (pc := 152) (v := .ref (r 9)) F iX8 0 rfl rfl 12 (by decide) tw_870 rfl dX8_readQuery_152 ?_
        refine z_aload_n (pc := 155) F dX8_readQuery_155 rfl 0 rfl ?_
        refine z_get (pc := 156) (v := .int (zi S 3)) F iX8 0 rfl rfl 10 (by decide) tw_868 rfl dX8_readQuery_156 ?_
        rw [show (zi S 3) = nI nq from hn3]
        refine z_ialdN (pc := 159) (f := upd fr nq 0) F 9 0 rfl rfl nq rfl (by omega) (by decide) dX8_readQuery_159 ?_
        rw [show ((upd fr nq 0) nq) = 0 from (by rw [pk_us])]
        refine z_imul (pc := 160) F dX8_readQuery_160 ?_
        refine z_aload_n (pc := 161) F dX8_readQuery_161 rfl 0 rfl ?_
        refine z_callVW (pc := 162) (q0 := 0) (ci := 8) (rest := [.int (10 * 0), .int (nI nq), .ref (r 9)]) F (c_X8_see l E r (zq3 S (upd of nq (nI (sx 0 - 48))) (upd fr nq 0) (upd en1 (4 * nq + 1) (nI (240 * nq + a1)))) tp sx (p1 + 1) (nI a1) (nI 0) cd1 nm1 ht (by omega)) 0 ww_Model_180 (by decide +kernel) rfl (by constructor <;> (dsimp only; omega)) ⟨Nat.le_of_ble_eq_true rfl, Nat.le_of_ble_eq_true rfl⟩ rfl rfl rfl rfl (Nat.le_of_ble_eq_true rfl) dX8_readQuery_162 (fun v_ w1_ hp => ?_)
        obtain ⟨rfl, rfl⟩ := hp
        show Z X (0) (0) (mw E r (mrq S (nI (p1 + 1)) (nI a1) (nI 0) cd1 nm1 (upd of nq (nI (sx 0 - 48))) (upd fr nq 0) (upd en1 (4 * nq + 1) (nI (240 * nq + a1))))) [(0, .ref (r 0)), (1, .int 0)] 165 [.int (nI (sx (p1 + 1))), .int (10 * 0), .int (nI nq), .ref (r 9)]
        refine z_iadd (pc := 165) F dX8_readQuery_165 ?_
        refine z_bipush (pc := 166) (v := 48) F dX8_readQuery_166 (by decide) ?_
        refine z_isub (pc := 168) F dX8_readQuery_168 ?_
        rw [show (((10 * 0) + (nI (sx (p1 + 1)))) - 48) = nI v1 from (by rw [hv1]; exact num10 (v := 0) dd0.1)]
        refine z_iastN (pc := 169) (ws' := mw E r (mrq S (nI (p1 + 1)) (nI a1) (nI 0) cd1 nm1 (upd of nq (nI (sx 0 - 48))) (upd (upd fr nq 0) nq (nI v1)) (upd en1 (4 * nq + 1) (nI (240 * nq + a1))))) (f := upd fr nq 0) F 9 0 rfl rfl nq rfl (by omega) (by decide) dX8_readQuery_169 rfl ?_
        refine z_aload_n (pc := 170) F dX8_readQuery_170 rfl 0 rfl ?_
        refine z_dup (pc := 171) F dX8_readQuery_171 rfl ?_
        refine z_get (pc := 172) (v := .int (nI (p1 + 1))) F iX8 0 rfl rfl 35 (by decide) tw_893 rfl dX8_readQuery_172 ?_
        refine z_iconst (pc := 175) (v := 1) F dX8_readQuery_175 (by decide) ?_
        refine z_iadd (pc := 176) F dX8_readQuery_176 ?_
        rw [show ((nI (p1 + 1)) + 1) = nI (p1 + 1 + 1) from (nI_1 _)]
        refine z_put (pc := 177) (ws' := mw E r (mrq S (nI (p1 + 1 + 1)) (nI a1) (nI 0) cd1 nm1 (upd of nq (nI (sx 0 - 48))) (upd (upd fr nq 0) nq (nI v1)) (upd en1 (4 * nq + 1) (nI (240 * nq + a1))))) F iX8 tyX8 tyX8_ok nmX8 0 rfl rfl 35 (by decide) tw_893 rfl rfl rfl (Nat.le_of_ble_eq_true rfl) dX8_readQuery_177 rfl ?_
        refine z_iinc (pc := 180) (v := 1) (lv' := [(0, .ref (r 0)), (1, .int 1)]) F (j := 1) dX8_readQuery_180 rfl (by decide) (by decide) [1, 0] rfl ?_
        refine z_goto (pc := 183) (tgt := 129) F dX8_readQuery_183 (by decide) ?_
        refine z_iload_n (pc := 129) F dX8_readQuery_129 rfl 1 rfl ?_
        refine z_iconst (pc := 130) (v := 2) F dX8_readQuery_130 (by decide) ?_
        refine z_icmp_ge (pc := 131) (tgt := 186) F dX8_readQuery_131 (by decide) (fun h => absurd h (by decide)) (fun _ => ?_)
        refine z_aload_n (pc := 134) F dX8_readQuery_134 rfl 0 rfl ?_
        refine z_callVW (pc := 135) (q0 := 0) (ci := 8) (rest := []) F (c_X8_isDigit l E r (zq3 S (upd of nq (nI (sx 0 - 48))) (upd (upd fr nq 0) nq (nI v1)) (upd en1 (4 * nq + 1) (nI (240 * nq + a1)))) tp sx (p1 + 1 + 1) (nI a1) (nI 0) cd1 nm1 ht (by omega)) 0 ww_Model_192 (by decide +kernel) rfl (by constructor <;> (dsimp only; omega)) ⟨Nat.le_of_ble_eq_true rfl, Nat.le_of_ble_eq_true rfl⟩ rfl rfl rfl rfl (Nat.le_of_ble_eq_true rfl) dX8_readQuery_135 (fun v_ w1_ hp => ?_)
        obtain ⟨rfl, rfl⟩ := hp
        show Z X (0) (0) (mw E r (mrq S (nI (p1 + 1 + 1)) (nI a1) (nI 0) cd1 nm1 (upd of nq (nI (sx 0 - 48))) (upd (upd fr nq 0) nq (nI v1)) (upd en1 (4 * nq + 1) (nI (240 * nq + a1))))) [(0, .ref (r 0)), (1, .int 1)] 138 [.int (bI (isD (sx (p1 + 1 + 1))))]
        refine z_if_eq (pc := 138) (tgt := 186) F dX8_readQuery_138 (by decide) (fun c138 => ?_) (fun c138 => ?_)
        · replace c138 := bI_f c138
          have d1 := c138
          refine z_locals (lv' := [(0, .ref (r 0))]) [0] rfl ?_; have ed : dgs sx 2 (p1 + 1) 0 = (p1 + 1 + 1, v1) := (by simp [dgs, d0, d1, hv1]); rw [ed] at hQ1; exact J186 (p1 + 1 + 1) (v1) a1 c0 c1 cd1 nm1 _ _ hQ1 (by omega) ha1 (by omega) hl1 (qbl_fr (qbl_fr (qbl_en hq1 (j := 4 * nq + 1) (by omega) _) _) _) (by rw [pk_us]) (by show upd en1 (4 * nq + 1) _ (4 * nq) = _; rw [pk_un (by omega)]; exact he1_0) (by show upd en1 (4 * nq + 1) _ (4 * nq + 1) = _; rw [pk_us, ha1])
        · replace c138 := bI_t c138
          have d1 := c138
          have dd1 := isD_t c138
          have hlt1 : p1 + 1 + 1 < tp := sx_lt h0 (by omega)
          obtain ⟨v2, hv2⟩ : ∃ v2, v2 = 10 * v1 + sx (p1 + 1 + 1) - 48 := ⟨_, rfl⟩
          refine z_aload_n (pc := 141) F dX8_readQuery_141 rfl 0 rfl ?_
          refine z_get (pc := 142) (v := .ref (r 9)) F iX8 0 rfl rfl 12 (by decide) tw_870 rfl dX8_readQuery_142 ?_
          refine z_aload_n (pc := 145) F dX8_readQuery_145 rfl 0 rfl ?_
          refine z_get (pc := 146) (v := .int (zi S 3)) F iX8 0 rfl rfl 10 (by decide) tw_868 rfl dX8_readQuery_146 ?_
          rw [show (zi S 3) = nI nq from hn3]
          refine z_bipush (pc := 149) (v := 10) F dX8_readQuery_149 (by decide) ?_
          refine z_aload_n (pc := 151) F dX8_readQuery_151 rfl 0 rfl ?_
          refine z_get (pc := 152) (v := .ref (r 9)) F iX8 0 rfl rfl 12 (by decide) tw_870 rfl dX8_readQuery_152 ?_
          refine z_aload_n (pc := 155) F dX8_readQuery_155 rfl 0 rfl ?_
          refine z_get (pc := 156) (v := .int (zi S 3)) F iX8 0 rfl rfl 10 (by decide) tw_868 rfl dX8_readQuery_156 ?_
          rw [show (zi S 3) = nI nq from hn3]
          refine z_ialdN (pc := 159) (f := upd (upd fr nq 0) nq (nI v1)) F 9 0 rfl rfl nq rfl (by omega) (by decide) dX8_readQuery_159 ?_
          rw [show ((upd (upd fr nq 0) nq (nI v1)) nq) = nI v1 from (by rw [pk_us])]
          refine z_imul (pc := 160) F dX8_readQuery_160 ?_
          refine z_aload_n (pc := 161) F dX8_readQuery_161 rfl 0 rfl ?_
          refine z_callVW (pc := 162) (q0 := 0) (ci := 8) (rest := [.int (10 * (nI v1)), .int (nI nq), .ref (r 9)]) F (c_X8_see l E r (zq3 S (upd of nq (nI (sx 0 - 48))) (upd (upd fr nq 0) nq (nI v1)) (upd en1 (4 * nq + 1) (nI (240 * nq + a1)))) tp sx (p1 + 1 + 1) (nI a1) (nI 0) cd1 nm1 ht (by omega)) 0 ww_Model_180 (by decide +kernel) rfl (by constructor <;> (dsimp only; omega)) ⟨Nat.le_of_ble_eq_true rfl, Nat.le_of_ble_eq_true rfl⟩ rfl rfl rfl rfl (Nat.le_of_ble_eq_true rfl) dX8_readQuery_162 (fun v_ w1_ hp => ?_)
          obtain ⟨rfl, rfl⟩ := hp
          show Z X (0) (0) (mw E r (mrq S (nI (p1 + 1 + 1)) (nI a1) (nI 0) cd1 nm1 (upd of nq (nI (sx 0 - 48))) (upd (upd fr nq 0) nq (nI v1)) (upd en1 (4 * nq + 1) (nI (240 * nq + a1))))) [(0, .ref (r 0)), (1, .int 1)] 165 [.int (nI (sx (p1 + 1 + 1))), .int (10 * (nI v1)), .int (nI nq), .ref (r 9)]
          refine z_iadd (pc := 165) F dX8_readQuery_165 ?_
          refine z_bipush (pc := 166) (v := 48) F dX8_readQuery_166 (by decide) ?_
          refine z_isub (pc := 168) F dX8_readQuery_168 ?_
          rw [show (((10 * (nI v1)) + (nI (sx (p1 + 1 + 1)))) - 48) = nI v2 from (by rw [hv2]; exact num10 dd1.1)]
          refine z_iastN (pc := 169) (ws' := mw E r (mrq S (nI (p1 + 1 + 1)) (nI a1) (nI 0) cd1 nm1 (upd of nq (nI (sx 0 - 48))) (upd (upd (upd fr nq 0) nq (nI v1)) nq (nI v2)) (upd en1 (4 * nq + 1) (nI (240 * nq + a1))))) (f := upd (upd fr nq 0) nq (nI v1)) F 9 0 rfl rfl nq rfl (by omega) (by decide) dX8_readQuery_169 rfl ?_
          refine z_aload_n (pc := 170) F dX8_readQuery_170 rfl 0 rfl ?_
          refine z_dup (pc := 171) F dX8_readQuery_171 rfl ?_
          refine z_get (pc := 172) (v := .int (nI (p1 + 1 + 1))) F iX8 0 rfl rfl 35 (by decide) tw_893 rfl dX8_readQuery_172 ?_
          refine z_iconst (pc := 175) (v := 1) F dX8_readQuery_175 (by decide) ?_
          refine z_iadd (pc := 176) F dX8_readQuery_176 ?_
          rw [show ((nI (p1 + 1 + 1)) + 1) = nI (p1 + 1 + 1 + 1) from (nI_1 _)]
          refine z_put (pc := 177) (ws' := mw E r (mrq S (nI (p1 + 1 + 1 + 1)) (nI a1) (nI 0) cd1 nm1 (upd of nq (nI (sx 0 - 48))) (upd (upd (upd fr nq 0) nq (nI v1)) nq (nI v2)) (upd en1 (4 * nq + 1) (nI (240 * nq + a1))))) F iX8 tyX8 tyX8_ok nmX8 0 rfl rfl 35 (by decide) tw_893 rfl rfl rfl (Nat.le_of_ble_eq_true rfl) dX8_readQuery_177 rfl ?_
          refine z_iinc (pc := 180) (v := 2) (lv' := [(0, .ref (r 0)), (1, .int 2)]) F (j := 1) dX8_readQuery_180 rfl (by decide) (by decide) [1, 0] rfl ?_
          refine z_goto (pc := 183) (tgt := 129) F dX8_readQuery_183 (by decide) ?_
          refine z_iload_n (pc := 129) F dX8_readQuery_129 rfl 1 rfl ?_
          refine z_iconst (pc := 130) (v := 2) F dX8_readQuery_130 (by decide) ?_
          refine z_icmp_ge (pc := 131) (tgt := 186) F dX8_readQuery_131 (by decide) (fun _ => ?_) (fun h => absurd h (by decide))
          refine z_locals (lv' := [(0, .ref (r 0))]) [0] rfl ?_; have ed : dgs sx 2 (p1 + 1) 0 = (p1 + 1 + 1 + 1, v2) := (by simp [dgs, d0, d1, hv1, hv2]); rw [ed] at hQ1; exact J186 (p1 + 1 + 1 + 1) (v2) a1 c0 c1 cd1 nm1 _ _ hQ1 (by omega) ha1 (by omega) hl1 (qbl_fr (qbl_fr (qbl_fr (qbl_en hq1 (j := 4 * nq + 1) (by omega) _) _) _) _) (by rw [pk_us]) (by show upd en1 (4 * nq + 1) _ (4 * nq) = _; rw [pk_un (by omega)]; exact he1_0) (by show upd en1 (4 * nq + 1) _ (4 * nq + 1) = _; rw [pk_us, ha1])
    · rw [rq1, if_neg k109] at hQ1
      refine z_callVW (pc := 109) (q0 := 0) (ci := 8) (rest := []) F (c_X8_want_n l E r (zq3 S (upd of nq (nI (sx 0 - 48))) fr (upd en1 (4 * nq + 1) (nI (240 * nq + a1)))) tp sx p1 (nI a1) (nI 0) cd1 nm1 59 ht (by omega) (by decide) k109) 1 ww_Model_189 (by decide +kernel) rfl (by constructor <;> (dsimp only; omega)) ⟨Nat.le_of_ble_eq_true rfl, Nat.le_of_ble_eq_true rfl⟩ rfl rfl rfl rfl (Nat.le_of_ble_eq_true rfl) dX8_readQuery_109 (fun v_ w1_ hp => ?_)
      obtain ⟨rfl, rfl⟩ := hp
      show Z X (0) (0) (mw E r (mrq S (nI p1) (nI a1) (nI 0) cd1 nm1 (upd of nq (nI (sx 0 - 48))) fr (upd en1 (4 * nq + 1) (nI (240 * nq + a1))))) [(0, .ref (r 0))] 112 [.int (bI false)]
      rw [show (bI false) = 0 from rfl]
      refine z_if_ne (pc := 112) (tgt := 117) F dX8_readQuery_112 (by decide) (fun h => absurd h (by decide)) (fun _ => ?_)
      refine z_iconst (pc := 115) (v := 0) F dX8_readQuery_115 (by decide) ?_
      exact z_zret (pc := 116) F hR rfl dX8_readQuery_116 (Nat.le_of_ble_eq_true rfl) (Nat.le_of_ble_eq_true rfl) (by skip; cases hQ1; exact ⟨_, _, _, _, _, _, _, rfl, rfl, qbl_en hq1 (j := 4 * nq + 1) (by omega) _, fun h => Bool.noConfusion h⟩)
  have J69 : ∀ (p0 : Nat) (a0 : Nat) (c0 : List (Nat × Nat)) (cd0 : Nat → Int32) (nm0 : Nat → Int32), (rq0 sx 1000 p0 c0 = some R) → (p0 ≤ tp) → (a0 = c0.length) → (a0 ≤ 2 * p0) → (laid cd0 nm0 (240 * nq) c0) → (qbl nq cd nm of fr en cd0 nm0 (upd of nq (nI (sx 0 - 48))) fr en) → Z X (0) (0) (mw E r (mrq S (nI p0) (nI a0) (nI 0) cd0 nm0 (upd of nq (nI (sx 0 - 48))) fr en)) [(0, .ref (r 0))] 69 [] := by
    intro p0 a0 c0 cd0 nm0 hQ0 hp0 ha0 hb0 hl0 hq0
    refine z_aload_n (pc := 69) F dX8_readQuery_69 rfl 0 rfl ?_
    refine z_iconst (pc := 70) (v := 0) F dX8_readQuery_70 (by decide) ?_
    refine z_callVW (pc := 71) (q0 := 0) (ci := 8) (rest := []) F (c_X8_end l E r S nq (nI p0) a0 (nI 0) cd0 nm0 (upd of nq (nI (sx 0 - 48))) fr en 0 hn6 hn3 (by omega) (by decide)) 1 ww_Model_229 (by decide +kernel) rfl (by constructor <;> (dsimp only; omega)) ⟨Nat.le_of_ble_eq_true rfl, Nat.le_of_ble_eq_true rfl⟩ rfl rfl rfl rfl (Nat.le_of_ble_eq_true rfl) dX8_readQuery_71 (fun v_ w1_ hp => ?_)
    obtain ⟨rfl, rfl⟩ := hp
    show Z X (0) (0) (mw E r (mrq S (nI p0) (nI a0) (nI 0) cd0 nm0 (upd of nq (nI (sx 0 - 48))) fr (upd en (4 * nq + 0) (nI (240 * nq + a0))))) [(0, .ref (r 0))] 74 []
    refine z_aload_n (pc := 74) F dX8_readQuery_74 rfl 0 rfl ?_
    refine z_bipush (pc := 75) (v := 59) F dX8_readQuery_75 (by decide) ?_
    rcases Classical.em (sx p0 = 59) with k77 | k77
    · have hlt77 : p0 < tp := sx_lt h0 (by omega)
      rw [rq0, if_pos k77] at hQ0
      refine z_callVW (pc := 77) (q0 := 0) (ci := 8) (rest := []) F (c_X8_want_y l E r (zq3 S (upd of nq (nI (sx 0 - 48))) fr (upd en (4 * nq + 0) (nI (240 * nq + a0)))) tp sx p0 (nI a0) (nI 0) cd0 nm0 59 ht (by omega) (by decide) k77) 1 ww_Model_189 (by decide +kernel) rfl (by constructor <;> (dsimp only; omega)) ⟨Nat.le_of_ble_eq_true rfl, Nat.le_of_ble_eq_true rfl⟩ rfl rfl rfl rfl (Nat.le_of_ble_eq_true rfl) dX8_readQuery_77 (fun v_ w1_ hp => ?_)
      obtain ⟨rfl, rfl⟩ := hp
      show Z X (0) (0) (mw E r (mrq S (nI (p0 + 1)) (nI a0) (nI 0) cd0 nm0 (upd of nq (nI (sx 0 - 48))) fr (upd en (4 * nq + 0) (nI (240 * nq + a0))))) [(0, .ref (r 0))] 80 [.int (bI true)]
      rw [show (bI true) = 1 from rfl]
      refine z_if_eq (pc := 80) (tgt := 99) F dX8_readQuery_80 (by decide) (fun h => absurd h (by decide)) (fun _ => ?_)
      refine z_aload_n (pc := 83) F dX8_readQuery_83 rfl 0 rfl ?_
      refine z_callVW (pc := 84) (q0 := 0) (ci := 8) (rest := []) F (c_X8_see l E r (zq3 S (upd of nq (nI (sx 0 - 48))) fr (upd en (4 * nq + 0) (nI (240 * nq + a0)))) tp sx (p0 + 1) (nI a0) (nI 0) cd0 nm0 ht (by omega)) 0 ww_Model_180 (by decide +kernel) rfl (by constructor <;> (dsimp only; omega)) ⟨Nat.le_of_ble_eq_true rfl, Nat.le_of_ble_eq_true rfl⟩ rfl rfl rfl rfl (Nat.le_of_ble_eq_true rfl) dX8_readQuery_84 (fun v_ w1_ hp => ?_)
      obtain ⟨rfl, rfl⟩ := hp
      show Z X (0) (0) (mw E r (mrq S (nI (p0 + 1)) (nI a0) (nI 0) cd0 nm0 (upd of nq (nI (sx 0 - 48))) fr (upd en (4 * nq + 0) (nI (240 * nq + a0))))) [(0, .ref (r 0))] 87 [.int (nI (sx (p0 + 1)))]
      refine z_bipush (pc := 87) (v := 59) F dX8_readQuery_87 (by decide) ?_
      refine z_icmp_eq (pc := 89) (tgt := 101) F dX8_readQuery_89 (by decide) (fun c89 => ?_) (fun c89 => ?_)
      · have k89 : sx (p0 + 1) = 59 := nIe (b := 59) (by have := hsx ((p0 + 1)); omega) (by decide) c89
        rw [optP, if_pos k89] at hQ0; exact J101 (p0 + 1) a0 c0 [] cd0 nm0 _ hQ0 (by omega) (by simp; omega) (by omega) (by simpa using hl0) (qbl_en hq0 (j := 4 * nq + 0) (by omega) _) (by show upd en (4 * nq + 0) _ (4 * nq + 0) = _; rw [pk_us, ha0])
      · have k89 : ¬ sx (p0 + 1) = 59 := fun h => c89 (by rw [h]; rfl)
        refine z_aload_n (pc := 92) F dX8_readQuery_92 rfl 0 rfl ?_
        obtain ⟨⟨b1, q1, e1⟩, hs1⟩ := ps_t h0 1000 5 (p0 + 1) 0 (by decide) (by omega) (by simp [rnk]; omega); cases b1
        · rw [optP, if_neg k89, hs1] at hQ0
          refine z_callVW (pc := 93) (q0 := 0) (ci := 8) (rest := []) F (pC_n (p_all l E r (zq3 S (upd of nq (nI (sx 0 - 48))) fr (upd en (4 * nq + 0) (nI (240 * nq + a0)))) nq tp sx ht hn6 hn3 1000).2.2.2.1 hs1 (by omega) (by omega) (by decide)) 0 ww_Model_202 (by decide +kernel) rfl (by constructor <;> (dsimp only; omega)) ⟨Nat.le_of_ble_eq_true rfl, Nat.le_of_ble_eq_true rfl⟩ rfl rfl rfl rfl (Nat.le_of_ble_eq_true rfl) dX8_readQuery_93 (fun v_ w1_ hp => ?_)
          obtain ⟨ax1, ox1, cx1, nx1, rfl, rfl, hA1⟩ := hp
          show Z X (0) (0) (mw E r (mrq S (nI q1) ax1 ox1 cx1 nx1 (upd of nq (nI (sx 0 - 48))) fr (upd en (4 * nq + 0) (nI (240 * nq + a0))))) [(0, .ref (r 0))] 96 [.int 0]
          refine z_if_ne (pc := 96) (tgt := 101) F dX8_readQuery_96 (by decide) (fun h => absurd h (by decide)) (fun _ => ?_)
          refine z_iconst (pc := 99) (v := 0) F dX8_readQuery_99 (by decide) ?_
          exact z_zret (pc := 100) F hR rfl dX8_readQuery_100 (Nat.le_of_ble_eq_true rfl) (Nat.le_of_ble_eq_true rfl) (by skip; cases hQ0; exact ⟨_, _, _, _, _, _, _, rfl, rfl, qbl_cd (qbl_en hq0 (j := 4 * nq + 0) (by omega) _) (by omega) hA1, fun h => Bool.noConfusion h⟩)
        · rw [optP, if_neg k89, hs1] at hQ0
          have bb1 : (p0 + 1) ≤ q1 ∧ ((p0 + 1) ≤ tp → q1 ≤ tp) ∧ e1.length ≤ 2 * (q1 - (p0 + 1)) := by simpa [bnd] using ps_b h0 _ _ _ _ _ (by decide) hs1
          refine z_callVW (pc := 93) (q0 := 0) (ci := 8) (rest := []) F (pC_y (p_all l E r (zq3 S (upd of nq (nI (sx 0 - 48))) fr (upd en (4 * nq + 0) (nI (240 * nq + a0)))) nq tp sx ht hn6 hn3 1000).2.2.2.1 hs1 (by omega) (by omega) (by decide)) 0 ww_Model_202 (by decide +kernel) rfl (by constructor <;> (dsimp only; omega)) ⟨Nat.le_of_ble_eq_true rfl, Nat.le_of_ble_eq_true rfl⟩ rfl rfl rfl rfl (Nat.le_of_ble_eq_true rfl) dX8_readQuery_93 (fun v_ w1_ hp => ?_)
          obtain ⟨cx1, nx1, rfl, rfl, hA1, hL1⟩ := hp
          show Z X (0) (0) (mw E r (mrq S (nI q1) (nI (a0 + e1.length)) (nI 0) cx1 nx1 (upd of nq (nI (sx 0 - 48))) fr (upd en (4 * nq + 0) (nI (240 * nq + a0))))) [(0, .ref (r 0))] 96 [.int 1]
          refine z_if_ne (pc := 96) (tgt := 101) F dX8_readQuery_96 (by decide) (fun _ => ?_) (fun h => absurd h (by decide))
          exact J101 q1 (a0 + e1.length) c0 e1 cx1 nx1 _ hQ0 (by omega) (by simp; omega) (by omega) (lq_app hl0 ha0 hA1 hL1) (qbl_cd (qbl_en hq0 (j := 4 * nq + 0) (by omega) _) (by omega) hA1) (by show upd en (4 * nq + 0) _ (4 * nq + 0) = _; rw [pk_us, ha0])
    · rw [rq0, if_neg k77] at hQ0
      refine z_callVW (pc := 77) (q0 := 0) (ci := 8) (rest := []) F (c_X8_want_n l E r (zq3 S (upd of nq (nI (sx 0 - 48))) fr (upd en (4 * nq + 0) (nI (240 * nq + a0)))) tp sx p0 (nI a0) (nI 0) cd0 nm0 59 ht (by omega) (by decide) k77) 1 ww_Model_189 (by decide +kernel) rfl (by constructor <;> (dsimp only; omega)) ⟨Nat.le_of_ble_eq_true rfl, Nat.le_of_ble_eq_true rfl⟩ rfl rfl rfl rfl (Nat.le_of_ble_eq_true rfl) dX8_readQuery_77 (fun v_ w1_ hp => ?_)
      obtain ⟨rfl, rfl⟩ := hp
      show Z X (0) (0) (mw E r (mrq S (nI p0) (nI a0) (nI 0) cd0 nm0 (upd of nq (nI (sx 0 - 48))) fr (upd en (4 * nq + 0) (nI (240 * nq + a0))))) [(0, .ref (r 0))] 80 [.int (bI false)]
      rw [show (bI false) = 0 from rfl]
      refine z_if_eq (pc := 80) (tgt := 99) F dX8_readQuery_80 (by decide) (fun _ => ?_) (fun h => absurd h (by decide))
      refine z_iconst (pc := 99) (v := 0) F dX8_readQuery_99 (by decide) ?_
      exact z_zret (pc := 100) F hR rfl dX8_readQuery_100 (Nat.le_of_ble_eq_true rfl) (Nat.le_of_ble_eq_true rfl) (by skip; cases hQ0; exact ⟨_, _, _, _, _, _, _, rfl, rfl, qbl_en hq0 (j := 4 * nq + 0) (by omega) _, fun h => Bool.noConfusion h⟩)
  refine z_aload_n (pc := 0) F dX8_readQuery_0 rfl 0 rfl ?_
  refine z_callVW (pc := 1) (q0 := 0) (ci := 8) (rest := []) F (c_X8_see l E r (zq3 S of fr en) tp sx 0 (nI 0) (nI 0) cd nm ht (Nat.zero_le _)) 0 ww_Model_180 (by decide +kernel) rfl (by constructor <;> (dsimp only; omega)) ⟨Nat.le_of_ble_eq_true rfl, Nat.le_of_ble_eq_true rfl⟩ rfl rfl rfl rfl (Nat.le_of_ble_eq_true rfl) dX8_readQuery_1 (fun v_ w1_ hp => ?_)
  obtain ⟨rfl, rfl⟩ := hp
  show Z X (0) (0) (mw E r (mrq S (nI 0) (nI 0) (nI 0) cd nm of fr en)) [(0, .ref (r 0))] 4 [.int (nI (sx 0))]
  refine z_bipush (pc := 4) (v := 48) F dX8_readQuery_4 (by decide) ?_
  refine z_bipush (pc := 6) (v := 51) F dX8_readQuery_6 (by decide) ?_
  rcases Classical.em (48 ≤ sx 0 ∧ sx 0 ≤ 51) with hK | hK
  · have ht0 : 0 < tp := sx_lt h0 (by omega)
    rw [rq, if_pos hK] at hQ
    refine z_callS0 (pc := 8) (rest := []) F (c_X8_within l E (nI (sx 0)) 48 51) 3 ww_Model_97 (by decide +kernel) rfl (by constructor <;> (dsimp only; omega)) ⟨Nat.le_of_ble_eq_true rfl, Nat.le_of_ble_eq_true rfl⟩ rfl (Nat.le_of_ble_eq_true rfl) dX8_readQuery_8 (fun v_ w1_ hp => ?_)
    obtain ⟨rfl, rfl⟩ := hp
    show Z X (0) (0) (mw E r (mrq S (nI 0) (nI 0) (nI 0) cd nm of fr en)) [(0, .ref (r 0))] 11 [.int (bI (decide (48 ≤ (nI (sx 0)) ∧ (nI (sx 0)) ≤ 51)))]
    rw [show (bI (decide (48 ≤ (nI (sx 0)) ∧ (nI (sx 0)) ≤ 51))) = 1 from (wi1 ⟨nI_le (a := 48) hK.1 (by omega), nI_le (b := 51) hK.2 (by decide)⟩)]
    refine z_if_ne (pc := 11) (tgt := 16) F dX8_readQuery_11 (by decide) (fun _ => ?_) (fun h => absurd h (by decide))
    refine z_aload_n (pc := 16) F dX8_readQuery_16 rfl 0 rfl ?_
    refine z_get (pc := 17) (v := .ref (r 8)) F iX8 0 rfl rfl 11 (by decide) tw_869 rfl dX8_readQuery_17 ?_
    refine z_aload_n (pc := 20) F dX8_readQuery_20 rfl 0 rfl ?_
    refine z_get (pc := 21) (v := .int (zi S 3)) F iX8 0 rfl rfl 10 (by decide) tw_868 rfl dX8_readQuery_21 ?_
    rw [show (zi S 3) = nI nq from hn3]
    refine z_aload_n (pc := 24) F dX8_readQuery_24 rfl 0 rfl ?_
    refine z_callVW (pc := 25) (q0 := 0) (ci := 8) (rest := [.int (nI nq), .ref (r 8)]) F (c_X8_see l E r (zq3 S of fr en) tp sx 0 (nI 0) (nI 0) cd nm ht (Nat.zero_le _)) 0 ww_Model_180 (by decide +kernel) rfl (by constructor <;> (dsimp only; omega)) ⟨Nat.le_of_ble_eq_true rfl, Nat.le_of_ble_eq_true rfl⟩ rfl rfl rfl rfl (Nat.le_of_ble_eq_true rfl) dX8_readQuery_25 (fun v_ w1_ hp => ?_)
    obtain ⟨rfl, rfl⟩ := hp
    show Z X (0) (0) (mw E r (mrq S (nI 0) (nI 0) (nI 0) cd nm of fr en)) [(0, .ref (r 0))] 28 [.int (nI (sx 0)), .int (nI nq), .ref (r 8)]
    refine z_bipush (pc := 28) (v := 48) F dX8_readQuery_28 (by decide) ?_
    refine z_isub (pc := 30) F dX8_readQuery_30 ?_
    rw [show ((nI (sx 0)) - 48) = nI (sx 0 - 48) from (pk_sub (b := 48) hK.1)]
    refine z_iastN (pc := 31) (ws' := mw E r (mrq S (nI 0) (nI 0) (nI 0) cd nm (upd of nq (nI (sx 0 - 48))) fr en)) (f := of) F 8 0 rfl rfl nq rfl (by omega) (by decide) dX8_readQuery_31 rfl ?_
    refine z_aload_n (pc := 32) F dX8_readQuery_32 rfl 0 rfl ?_
    refine z_dup (pc := 33) F dX8_readQuery_33 rfl ?_
    refine z_get (pc := 34) (v := .int (nI 0)) F iX8 0 rfl rfl 35 (by decide) tw_893 rfl dX8_readQuery_34 ?_
    refine z_iconst (pc := 37) (v := 1) F dX8_readQuery_37 (by decide) ?_
    refine z_iadd (pc := 38) F dX8_readQuery_38 ?_
    rw [show ((nI 0) + 1) = nI 1 from (nI_1 0)]
    refine z_put (pc := 39) (ws' := mw E r (mrq S (nI 1) (nI 0) (nI 0) cd nm (upd of nq (nI (sx 0 - 48))) fr en)) F iX8 tyX8 tyX8_ok nmX8 0 rfl rfl 35 (by decide) tw_893 rfl rfl rfl (Nat.le_of_ble_eq_true rfl) dX8_readQuery_39 rfl ?_
    refine z_aload_n (pc := 42) F dX8_readQuery_42 rfl 0 rfl ?_
    refine z_bipush (pc := 43) (v := 58) F dX8_readQuery_43 (by decide) ?_
    rcases Classical.em (sx 1 = 58) with k45 | k45
    · have hlt45 : 1 < tp := sx_lt h0 (by omega)
      rw [if_pos k45] at hQ
      refine z_callVW (pc := 45) (q0 := 0) (ci := 8) (rest := []) F (c_X8_want_y l E r (zq3 S (upd of nq (nI (sx 0 - 48))) fr en) tp sx 1 (nI 0) (nI 0) cd nm 58 ht (by omega) (by decide) k45) 1 ww_Model_189 (by decide +kernel) rfl (by constructor <;> (dsimp only; omega)) ⟨Nat.le_of_ble_eq_true rfl, Nat.le_of_ble_eq_true rfl⟩ rfl rfl rfl rfl (Nat.le_of_ble_eq_true rfl) dX8_readQuery_45 (fun v_ w1_ hp => ?_)
      obtain ⟨rfl, rfl⟩ := hp
      show Z X (0) (0) (mw E r (mrq S (nI (1 + 1)) (nI 0) (nI 0) cd nm (upd of nq (nI (sx 0 - 48))) fr en)) [(0, .ref (r 0))] 48 [.int (bI true)]
      rw [show (bI true) = 1 from rfl]
      refine z_if_eq (pc := 48) (tgt := 67) F dX8_readQuery_48 (by decide) (fun h => absurd h (by decide)) (fun _ => ?_)
      show Z X (0) (0) (mw E r (mrq S (nI 2) (nI 0) (nI 0) cd nm (upd of nq (nI (sx 0 - 48))) fr en)) [(0, .ref (r 0))] 51 []
      refine z_aload_n (pc := 51) F dX8_readQuery_51 rfl 0 rfl ?_
      refine z_callVW (pc := 52) (q0 := 0) (ci := 8) (rest := []) F (c_X8_see l E r (zq3 S (upd of nq (nI (sx 0 - 48))) fr en) tp sx 2 (nI 0) (nI 0) cd nm ht (by omega)) 0 ww_Model_180 (by decide +kernel) rfl (by constructor <;> (dsimp only; omega)) ⟨Nat.le_of_ble_eq_true rfl, Nat.le_of_ble_eq_true rfl⟩ rfl rfl rfl rfl (Nat.le_of_ble_eq_true rfl) dX8_readQuery_52 (fun v_ w1_ hp => ?_)
      obtain ⟨rfl, rfl⟩ := hp
      show Z X (0) (0) (mw E r (mrq S (nI 2) (nI 0) (nI 0) cd nm (upd of nq (nI (sx 0 - 48))) fr en)) [(0, .ref (r 0))] 55 [.int (nI (sx 2))]
      refine z_bipush (pc := 55) (v := 59) F dX8_readQuery_55 (by decide) ?_
      refine z_icmp_eq (pc := 57) (tgt := 69) F dX8_readQuery_57 (by decide) (fun c57 => ?_) (fun c57 => ?_)
      · have k57 : sx 2 = 59 := nIe (b := 59) (by have := hsx (2); omega) (by decide) c57
        rw [optP, if_pos k57] at hQ; exact J69 2 0 [] cd nm hQ (by omega) rfl (by decide) (laid_nil _ _ _) (qbl_of (qbl_rf _ _ _ _ _ _) _)
      · have k57 : ¬ sx 2 = 59 := fun h => c57 (by rw [h]; rfl)
        refine z_aload_n (pc := 60) F dX8_readQuery_60 rfl 0 rfl ?_
        obtain ⟨⟨b0, q0, e0⟩, hs0⟩ := ps_t h0 1000 0 2 0 (by decide) (by omega) (by simp [rnk]; omega); cases b0
        · rw [optP, if_neg k57, hs0] at hQ
          refine z_callVW (pc := 61) (q0 := 0) (ci := 8) (rest := []) F (pC_n (p_all l E r (zq3 S (upd of nq (nI (sx 0 - 48))) fr en) nq tp sx ht hn6 hn3 1000).1 hs0 (by omega) (by omega) (by decide)) 0 ww_Model_220 (by decide +kernel) rfl (by constructor <;> (dsimp only; omega)) ⟨Nat.le_of_ble_eq_true rfl, Nat.le_of_ble_eq_true rfl⟩ rfl rfl rfl rfl (Nat.le_of_ble_eq_true rfl) dX8_readQuery_61 (fun v_ w1_ hp => ?_)
          obtain ⟨ax0, ox0, cx0, nx0, rfl, rfl, hA0⟩ := hp
          show Z X (0) (0) (mw E r (mrq S (nI q0) ax0 ox0 cx0 nx0 (upd of nq (nI (sx 0 - 48))) fr en)) [(0, .ref (r 0))] 64 [.int 0]
          refine z_if_ne (pc := 64) (tgt := 69) F dX8_readQuery_64 (by decide) (fun h => absurd h (by decide)) (fun _ => ?_)
          refine z_iconst (pc := 67) (v := 0) F dX8_readQuery_67 (by decide) ?_
          exact z_zret (pc := 68) F hR rfl dX8_readQuery_68 (Nat.le_of_ble_eq_true rfl) (Nat.le_of_ble_eq_true rfl) (by skip; cases hQ; exact ⟨_, _, _, _, _, _, _, rfl, rfl, qbl_cd (qbl_of (qbl_rf _ _ _ _ _ _) _) (Nat.le_refl _) hA0, fun h => Bool.noConfusion h⟩)
        · rw [optP, if_neg k57, hs0] at hQ
          have bb0 : 2 ≤ q0 ∧ (2 ≤ tp → q0 ≤ tp) ∧ e0.length ≤ 2 * (q0 - 2) := by simpa [bnd] using ps_b h0 _ _ _ _ _ (by decide) hs0
          refine z_callVW (pc := 61) (q0 := 0) (ci := 8) (rest := []) F (pC_y (p_all l E r (zq3 S (upd of nq (nI (sx 0 - 48))) fr en) nq tp sx ht hn6 hn3 1000).1 hs0 (by omega) (by omega) (by decide)) 0 ww_Model_220 (by decide +kernel) rfl (by constructor <;> (dsimp only; omega)) ⟨Nat.le_of_ble_eq_true rfl, Nat.le_of_ble_eq_true rfl⟩ rfl rfl rfl rfl (Nat.le_of_ble_eq_true rfl) dX8_readQuery_61 (fun v_ w1_ hp => ?_)
          obtain ⟨cx0, nx0, rfl, rfl, hA0, hL0⟩ := hp
          show Z X (0) (0) (mw E r (mrq S (nI q0) (nI (0 + e0.length)) (nI 0) cx0 nx0 (upd of nq (nI (sx 0 - 48))) fr en)) [(0, .ref (r 0))] 64 [.int 1]
          refine z_if_ne (pc := 64) (tgt := 69) F dX8_readQuery_64 (by decide) (fun _ => ?_) (fun h => absurd h (by decide))
          exact J69 q0 (0 + e0.length) e0 cx0 nx0 hQ (by omega) (by omega) (by omega) hL0 (qbl_cd (qbl_of (qbl_rf _ _ _ _ _ _) _) (Nat.le_refl _) hA0)
    · rw [if_neg k45] at hQ
      refine z_callVW (pc := 45) (q0 := 0) (ci := 8) (rest := []) F (c_X8_want_n l E r (zq3 S (upd of nq (nI (sx 0 - 48))) fr en) tp sx 1 (nI 0) (nI 0) cd nm 58 ht (by omega) (by decide) k45) 1 ww_Model_189 (by decide +kernel) rfl (by constructor <;> (dsimp only; omega)) ⟨Nat.le_of_ble_eq_true rfl, Nat.le_of_ble_eq_true rfl⟩ rfl rfl rfl rfl (Nat.le_of_ble_eq_true rfl) dX8_readQuery_45 (fun v_ w1_ hp => ?_)
      obtain ⟨rfl, rfl⟩ := hp
      show Z X (0) (0) (mw E r (mrq S (nI 1) (nI 0) (nI 0) cd nm (upd of nq (nI (sx 0 - 48))) fr en)) [(0, .ref (r 0))] 48 [.int (bI false)]
      rw [show (bI false) = 0 from rfl]
      refine z_if_eq (pc := 48) (tgt := 67) F dX8_readQuery_48 (by decide) (fun _ => ?_) (fun h => absurd h (by decide))
      refine z_iconst (pc := 67) (v := 0) F dX8_readQuery_67 (by decide) ?_
      exact z_zret (pc := 68) F hR rfl dX8_readQuery_68 (Nat.le_of_ble_eq_true rfl) (Nat.le_of_ble_eq_true rfl) (by skip; cases hQ; exact ⟨_, _, _, _, _, _, _, rfl, rfl, qbl_of (qbl_rf _ _ _ _ _ _) _, fun h => Bool.noConfusion h⟩)
  · rw [rq, if_neg hK] at hQ
    refine z_callS0 (pc := 8) (rest := []) F (c_X8_within l E (nI (sx 0)) 48 51) 3 ww_Model_97 (by decide +kernel) rfl (by constructor <;> (dsimp only; omega)) ⟨Nat.le_of_ble_eq_true rfl, Nat.le_of_ble_eq_true rfl⟩ rfl (Nat.le_of_ble_eq_true rfl) dX8_readQuery_8 (fun v_ w1_ hp => ?_)
    obtain ⟨rfl, rfl⟩ := hp
    show Z X (0) (0) (mw E r (mrq S (nI 0) (nI 0) (nI 0) cd nm of fr en)) [(0, .ref (r 0))] 11 [.int (bI (decide (48 ≤ (nI (sx 0)) ∧ (nI (sx 0)) ≤ 51)))]
    rw [show (bI (decide (48 ≤ (nI (sx 0)) ∧ (nI (sx 0)) ≤ 51))) = 0 from (wi0 (fun h => hK ⟨gI (a := 48) (by decide) (by omega) h.1, gI (b := 51) (by omega) (by decide) h.2⟩))]
    refine z_if_ne (pc := 11) (tgt := 16) F dX8_readQuery_11 (by decide) (fun h => absurd h (by decide)) (fun _ => ?_)
    refine z_iconst (pc := 14) (v := 0) F dX8_readQuery_14 (by decide) ?_
    exact z_zret (pc := 15) F hR rfl dX8_readQuery_15 (Nat.le_of_ble_eq_true rfl) (Nat.le_of_ble_eq_true rfl) (by skip; cases hQ; exact ⟨_, _, _, _, _, _, _, rfl, rfl, qbl_rf _ _ _ _ _ _, fun h => Bool.noConfusion h⟩)

theorem p10_t {sx : Nat → Nat} {k p op : Nat} {R : zRs} (h : ps sx (k + 1) 10 p op = some R) (h1 : ¬ sx p = 114) (h2 : sx p = 116) : (if ¬ sx (p + 1) = 91 ∨ op = 12 then some (false, p + 1, []) else pthen (ps sx k 5 (p + 1 + 1) (op + 1)) (fun q c => clo sx 93 q (c ++ [(8, 0)]))) = some R := by
  have h4 : (if sx p = 114 then _ else if sx p = 116 then (if ¬ sx (p + 1) = 91 ∨ op = 12 then _ else _) else _) = some R := h
  rw [if_neg h1, if_pos h2] at h4; exact h4
set_option maxHeartbeats 4000000 in
set_option maxRecDepth 100000 in
theorem c_X3_readComparison_p (l : Launch) (E : zE) (r : Nat → Nat) (rt : Nat → Nat) (rp : Nat → Nat) (S : zS) (ST : zS) (SP : zS) (tp : Nat) (sx : Nat → Nat) (n : Nat) (p : Nat) (op : Nat) (G : List zNd) (o1 : Nat → Int32) (l1 : Nat → Int32) (r1 : Nat → Int32) (R : zRs) (ht : tpC ST tp sx) (ihX : cC l E r rt rp S ST SP tp sx yX3_readX cX3_readX 5 (fun p op R => ps sx n 5 p op = some R) n) (hH : pthen (ps sx n 5 p op) (fun p c => if sx p = 61 ∨ sx p = 35 ∨ sx p = 60 ∨ sx p = 62 then pthen (ps sx n 5 (p + 1) op) (fun p' c' => some (true, p', c ++ (c' ++ [(cmpO (sx p), 0)]))) else some (false, p, c)) = some R) (hp : p ≤ tp) (hN : G.length ≤ p) (hop : op ≤ 12) (hho : hoN G o1 l1 r1) : Ct l yX3_readComparison cX3_readComparison 4 (some .int) (prd n) E (rdw E r (rt 0) (.ref (rp 0)) (mrd S (nI p)) ++ tpw E rt ST ++ plw E rp (mpv SP (nI G.length) o1 l1 r1)) [.ref (r 0), .int (nI op)] (fun v_ w_ => ∃ v : Int32, ∃ G' : List zNd, ∃ o' : Nat → Int32, ∃ l' : Nat → Int32, ∃ r' : Nat → Int32, v_ = some (.int v) ∧ w_ = rdw E r (rt 0) (.ref (rp 0)) (mrd S (nI R.2.1)) ++ tpw E rt ST ++ plw E rp (mpv SP (nI G'.length) o' l' r') ∧ (hoN G' o' l' r') ∧ (cFin sx G p R v G')) := by
  refine Ct.of (by decide) (Nat.le_of_ble_eq_true rfl) (lv := [(0, .ref (r 0)), (1, .int (nI op))]) rfl ?_
  intro X F hR
  have F : zF X l (prd n) E cX3_readComparison 4 "LiveQueries$Reader" := F
  have htp := ht.2.1
  have hsx := ht.2.2.2.2
  have h0 := ht.2.2.2.1
  obtain ⟨p1, c1, hh⟩ := pthen_inv hH
  rcases hh with ⟨h1, rfl⟩ | ⟨h1, h2⟩
  · have b1 : p ≤ p1 ∧ (p ≤ tp → p1 ≤ tp) := by have q_ := ps_b h0 _ _ _ _ _ (by decide) h1; exact ⟨q_.1, q_.2.1⟩
    refine z_aload_n (pc := 0) F dX3_readComparison_0 rfl 0 rfl ?_
    refine z_iload_n (pc := 1) F dX3_readComparison_1 rfl 1 rfl ?_
    refine z_callVW (pc := 2) (q0 := 0) (ci := 3) (rest := []) F (cC_n (ihX) h1 hp hN hop hho) 1 ww_Reader_74 (by decide +kernel) rfl (by constructor <;> (dsimp only; omega)) ⟨Nat.le_of_ble_eq_true rfl, Nat.le_of_ble_eq_true rfl⟩ rfl rfl rfl rfl (Nat.le_of_ble_eq_true rfl) dX3_readComparison_2 (fun v_ w1_ hp => ?_)
    obtain ⟨v1, G1, o1_, l1_, r1_, rfl, rfl, hho1, hln1, hv1⟩ := hp
    show Z X (0) (0) (rdw E r (rt 0) (.ref (rp 0)) (mrd S (nI p1)) ++ tpw E rt ST ++ plw E rp (mpv SP (nI G1.length) o1_ l1_ r1_)) [(0, .ref (r 0)), (1, .int (nI op))] 5 [.int v1]
    refine z_istore_n (pc := 5) (lv' := [(0, .ref (r 0)), (1, .int (nI op)), (2, .int v1)]) F dX3_readComparison_5 rfl (by decide) [1, 2, 0] rfl ?_
    refine z_aload_n (pc := 6) F dX3_readComparison_6 rfl 0 rfl ?_
    refine z_callVW (pc := 7) (q0 := 0) (ci := 3) (rest := []) F (c_X3_peek l E r rt rp S ST (mpv SP (nI G1.length) o1_ l1_ r1_) tp sx p1 ht (by omega)) 0 ww_Reader_51 (by decide +kernel) rfl (by constructor <;> (dsimp only; omega)) ⟨Nat.le_of_ble_eq_true rfl, Nat.le_of_ble_eq_true rfl⟩ rfl rfl rfl rfl (Nat.le_of_ble_eq_true rfl) dX3_readComparison_7 (fun v_ w1_ hp => ?_)
    obtain ⟨rfl, rfl⟩ := hp
    show Z X (0) (0) (rdw E r (rt 0) (.ref (rp 0)) (mrd S (nI p1)) ++ tpw E rt ST ++ plw E rp (mpv SP (nI G1.length) o1_ l1_ r1_)) [(0, .ref (r 0)), (1, .int (nI op)), (2, .int v1)] 10 [.int (nI (sx p1))]
    refine z_istore_n (pc := 10) (lv' := [(0, .ref (r 0)), (1, .int (nI op)), (2, .int v1), (3, .int (nI (sx p1)))]) F dX3_readComparison_10 rfl (by decide) [1, 2, 3, 0] rfl ?_
    rcases hv1 with hv1 | hv1
    · subst hv1
      refine z_iload_n (pc := 11) F dX3_readComparison_11 rfl 2 rfl ?_
      refine z_iconst (pc := 12) (v := (-1)) F dX3_readComparison_12 (by decide) ?_
      refine z_icmp_eq (pc := 13) (tgt := 40) F dX3_readComparison_13 (by decide) (fun _ => ?_) (fun h => absurd h (by decide))
      refine z_iconst (pc := 40) (v := (-1)) F dX3_readComparison_40 (by decide) ?_
      exact z_iret (pc := 41) F hR dX3_readComparison_41 (Nat.le_of_ble_eq_true rfl) (Nat.le_of_ble_eq_true rfl) (ce_n rfl rfl hho1 hln1 (Or.inl rfl))
    · skip
      refine z_iload_n (pc := 11) F dX3_readComparison_11 rfl 2 rfl ?_
      refine z_iconst (pc := 12) (v := (-1)) F dX3_readComparison_12 (by decide) ?_
      refine z_icmp_eq (pc := 13) (tgt := 40) F dX3_readComparison_13 (by decide) (fun c13 => absurd c13 hv1.1) (fun c13 => ?_)
      refine z_iload_n (pc := 16) F dX3_readComparison_16 rfl 3 rfl ?_
      refine z_bipush (pc := 17) (v := 61) F dX3_readComparison_17 (by decide) ?_
      refine z_icmp_eq (pc := 19) (tgt := 42) F dX3_readComparison_19 (by decide) (fun c19 => absurd c19 (fun h => isD_ne hv1.2 (by decide) (nIe (b := 61) (by have := hsx p1; omega) (by decide) h))) (fun c19 => ?_)
      have k19 : ¬ sx p1 = 61 := fun h => c19 (by rw [h]; rfl)
      refine z_iload_n (pc := 22) F dX3_readComparison_22 rfl 3 rfl ?_
      refine z_bipush (pc := 23) (v := 35) F dX3_readComparison_23 (by decide) ?_
      refine z_icmp_eq (pc := 25) (tgt := 42) F dX3_readComparison_25 (by decide) (fun c25 => absurd c25 (fun h => isD_ne hv1.2 (by decide) (nIe (b := 35) (by have := hsx p1; omega) (by decide) h))) (fun c25 => ?_)
      have k25 : ¬ sx p1 = 35 := fun h => c25 (by rw [h]; rfl)
      refine z_iload_n (pc := 28) F dX3_readComparison_28 rfl 3 rfl ?_
      refine z_bipush (pc := 29) (v := 60) F dX3_readComparison_29 (by decide) ?_
      refine z_icmp_eq (pc := 31) (tgt := 42) F dX3_readComparison_31 (by decide) (fun c31 => absurd c31 (fun h => isD_ne hv1.2 (by decide) (nIe (b := 60) (by have := hsx p1; omega) (by decide) h))) (fun c31 => ?_)
      have k31 : ¬ sx p1 = 60 := fun h => c31 (by rw [h]; rfl)
      refine z_iload_n (pc := 34) F dX3_readComparison_34 rfl 3 rfl ?_
      refine z_bipush (pc := 35) (v := 62) F dX3_readComparison_35 (by decide) ?_
      refine z_icmp_eq (pc := 37) (tgt := 42) F dX3_readComparison_37 (by decide) (fun c37 => absurd c37 (fun h => isD_ne hv1.2 (by decide) (nIe (b := 62) (by have := hsx p1; omega) (by decide) h))) (fun c37 => ?_)
      have k37 : ¬ sx p1 = 62 := fun h => c37 (by rw [h]; rfl)
      refine z_iconst (pc := 40) (v := (-1)) F dX3_readComparison_40 (by decide) ?_
      exact z_iret (pc := 41) F hR dX3_readComparison_41 (Nat.le_of_ble_eq_true rfl) (Nat.le_of_ble_eq_true rfl) (ce_n rfl rfl hho1 hln1 (Or.inl rfl))
  · have b1 : p ≤ p1 ∧ (p ≤ tp → p1 ≤ tp) := by have q_ := ps_b h0 _ _ _ _ _ (by decide) h1; exact ⟨q_.1, q_.2.1⟩
    refine z_aload_n (pc := 0) F dX3_readComparison_0 rfl 0 rfl ?_
    refine z_iload_n (pc := 1) F dX3_readComparison_1 rfl 1 rfl ?_
    refine z_callVW (pc := 2) (q0 := 0) (ci := 3) (rest := []) F (cC_y (ihX) h1 hp hN hop hho) 1 ww_Reader_74 (by decide +kernel) rfl (by constructor <;> (dsimp only; omega)) ⟨Nat.le_of_ble_eq_true rfl, Nat.le_of_ble_eq_true rfl⟩ rfl rfl rfl rfl (Nat.le_of_ble_eq_true rfl) dX3_readComparison_2 (fun v_ w1_ hp => ?_)
    obtain ⟨j1, G1, o1_, l1_, r1_, rfl, rfl, hho1, hln1, hj1, hB1⟩ := hp
    show Z X (0) (0) (rdw E r (rt 0) (.ref (rp 0)) (mrd S (nI p1)) ++ tpw E rt ST ++ plw E rp (mpv SP (nI G1.length) o1_ l1_ r1_)) [(0, .ref (r 0)), (1, .int (nI op))] 5 [.int (nI j1)]
    refine z_istore_n (pc := 5) (lv' := [(0, .ref (r 0)), (1, .int (nI op)), (2, .int (nI j1))]) F dX3_readComparison_5 rfl (by decide) [1, 2, 0] rfl ?_
    refine z_aload_n (pc := 6) F dX3_readComparison_6 rfl 0 rfl ?_
    refine z_callVW (pc := 7) (q0 := 0) (ci := 3) (rest := []) F (c_X3_peek l E r rt rp S ST (mpv SP (nI G1.length) o1_ l1_ r1_) tp sx p1 ht (by omega)) 0 ww_Reader_51 (by decide +kernel) rfl (by constructor <;> (dsimp only; omega)) ⟨Nat.le_of_ble_eq_true rfl, Nat.le_of_ble_eq_true rfl⟩ rfl rfl rfl rfl (Nat.le_of_ble_eq_true rfl) dX3_readComparison_7 (fun v_ w1_ hp => ?_)
    obtain ⟨rfl, rfl⟩ := hp
    show Z X (0) (0) (rdw E r (rt 0) (.ref (rp 0)) (mrd S (nI p1)) ++ tpw E rt ST ++ plw E rp (mpv SP (nI G1.length) o1_ l1_ r1_)) [(0, .ref (r 0)), (1, .int (nI op)), (2, .int (nI j1))] 10 [.int (nI (sx p1))]
    refine z_istore_n (pc := 10) (lv' := [(0, .ref (r 0)), (1, .int (nI op)), (2, .int (nI j1)), (3, .int (nI (sx p1)))]) F dX3_readComparison_10 rfl (by decide) [1, 2, 3, 0] rfl ?_
    refine z_iload_n (pc := 11) F dX3_readComparison_11 rfl 2 rfl ?_
    refine z_iconst (pc := 12) (v := (-1)) F dX3_readComparison_12 (by decide) ?_
    refine z_icmp_eq (pc := 13) (tgt := 40) F dX3_readComparison_13 (by decide) (fun c13 => absurd c13 (nI_nm (by omega))) (fun c13 => ?_)
    refine z_iload_n (pc := 16) F dX3_readComparison_16 rfl 3 rfl ?_
    refine z_bipush (pc := 17) (v := 61) F dX3_readComparison_17 (by decide) ?_
    refine z_icmp_eq (pc := 19) (tgt := 42) F dX3_readComparison_19 (by decide) (fun c19 => ?_) (fun c19 => ?_)
    · have k19 : sx p1 = 61 := nIe (b := 61) (by have := hsx (p1); omega) (by decide) c19
      have kx : sx p1 = 61 ∨ sx p1 = 35 ∨ sx p1 = 60 ∨ sx p1 = 62 := by omega
      have hlt1 : p1 < tp := sx_lt h0 (by omega)
      rw [if_pos kx] at h2
      refine z_aload_n (pc := 42) F dX3_readComparison_42 rfl 0 rfl ?_
      refine z_dup (pc := 43) F dX3_readComparison_43 rfl ?_
      refine z_get (pc := 44) (v := .int (nI p1)) F iX3 0 rfl rfl 2 (by decide) tw_149 rfl dX3_readComparison_44 ?_
      refine z_iconst (pc := 47) (v := 1) F dX3_readComparison_47 (by decide) ?_
      refine z_iadd (pc := 48) F dX3_readComparison_48 ?_
      rw [show ((nI p1) + 1) = nI (p1 + 1) from (nI_1 _)]
      refine z_put (pc := 49) (ws' := rdw E r (rt 0) (.ref (rp 0)) (mrd S (nI (p1 + 1))) ++ tpw E rt ST ++ plw E rp (mpv SP (nI G1.length) o1_ l1_ r1_)) F iX3 tyX3 tyX3_ok nmX3 0 rfl rfl 2 (by decide) tw_149 rfl rfl rfl (Nat.le_of_ble_eq_true rfl) dX3_readComparison_49 rfl ?_
      refine z_aload_n (pc := 52) F dX3_readComparison_52 rfl 0 rfl ?_
      refine z_get (pc := 53) (v := .ref (rp 0)) F iX3 0 rfl rfl 1 (by decide) tw_148 rfl dX3_readComparison_53 ?_
      refine z_iload_n (pc := 56) F dX3_readComparison_56 rfl 3 rfl ?_
      refine z_iload_n (pc := 57) F dX3_readComparison_57 rfl 2 rfl ?_
      refine z_aload_n (pc := 58) F dX3_readComparison_58 rfl 0 rfl ?_
      refine z_iload_n (pc := 59) F dX3_readComparison_59 rfl 1 rfl ?_
      obtain ⟨p3, c3, hh3⟩ := pthen_inv h2; rcases hh3 with ⟨h3, e4⟩ | ⟨h3, e4⟩
      · have b3 : (p1 + 1) ≤ p3 ∧ ((p1 + 1) ≤ tp → p3 ≤ tp) := by have q_ := ps_b h0 _ _ _ _ _ (by decide) h3; exact ⟨q_.1, q_.2.1⟩
        refine z_callVW (pc := 60) (q0 := 0) (ci := 3) (rest := [.int (nI j1), .int (nI (sx p1)), .ref (rp 0)]) F (cC_n (ihX) h3 (by omega) (by omega) (by omega) hho1) 1 ww_Reader_74 (by decide +kernel) rfl (by constructor <;> (dsimp only; omega)) ⟨Nat.le_of_ble_eq_true rfl, Nat.le_of_ble_eq_true rfl⟩ rfl rfl rfl rfl (Nat.le_of_ble_eq_true rfl) dX3_readComparison_60 (fun v_ w1_ hp => ?_)
        obtain ⟨v3, G3, o3, l3, r3, rfl, rfl, hho3, hln3, hv3⟩ := hp
        show Z X (0) (0) (rdw E r (rt 0) (.ref (rp 0)) (mrd S (nI p3)) ++ tpw E rt ST ++ plw E rp (mpv SP (nI G3.length) o3 l3 r3)) [(0, .ref (r 0)), (1, .int (nI op)), (2, .int (nI j1)), (3, .int (nI (sx p1)))] 63 [.int v3, .int (nI j1), .int (nI (sx p1)), .ref (rp 0)]
        rcases hv3 with hv3 | hv3
        · subst hv3
          refine z_callV (pc := 63) (q0 := 3) (ci := 2) (wr := rdw E r (rt 0) (.ref (rp 0)) (mrd S (nI p3)) ++ tpw E rt ST) (rest := []) F (c_X2_join_n l E rp (mpv SP (nI G3.length) o3 l3 r3) (nI (sx p1)) (nI j1) (-1) (Or.inr rfl)) 3 [3, 4, 5, 6] [0, 1, 2] rfl rfl ⟨by decide, by decide, by decide⟩ ww_Reader_95 (by decide +kernel) rfl (by constructor <;> (dsimp only; omega)) ⟨Nat.le_of_ble_eq_true rfl, Nat.le_of_ble_eq_true rfl⟩ rfl rfl rfl rfl (Nat.le_of_ble_eq_true rfl) dX3_readComparison_63 (fun v_ w1_ hp => ?_)
          obtain ⟨rfl, rfl⟩ := hp
          show Z X (0) (0) (rdw E r (rt 0) (.ref (rp 0)) (mrd S (nI p3)) ++ tpw E rt ST ++ plw E rp (mpv SP (nI G3.length) o3 l3 r3)) [(0, .ref (r 0)), (1, .int (nI op)), (2, .int (nI j1)), (3, .int (nI (sx p1)))] 66 [.int (-1)]
          exact z_iret (pc := 66) F hR dX3_readComparison_66 (Nat.le_of_ble_eq_true rfl) (Nat.le_of_ble_eq_true rfl) (by subst e4; exact ce_n rfl rfl hho3 (by omega) (Or.inl rfl))
        · skip
          refine z_callV (pc := 63) (q0 := 3) (ci := 2) (wr := rdw E r (rt 0) (.ref (rp 0)) (mrd S (nI p3)) ++ tpw E rt ST) (rest := []) F (c_X2_join_y l E rp (mpv SP (nI G3.length) o3 l3 r3) (G3.length) (nI (sx p1)) (nI j1) v3 (by omega) rfl (nar_ch (hsx p1)) (nI_nm (by omega)) hv3.1) 3 [3, 4, 5, 6] [0, 1, 2] rfl rfl ⟨by decide, by decide, by decide⟩ ww_Reader_95 (by decide +kernel) rfl (by constructor <;> (dsimp only; omega)) ⟨Nat.le_of_ble_eq_true rfl, Nat.le_of_ble_eq_true rfl⟩ rfl rfl rfl rfl (Nat.le_of_ble_eq_true rfl) dX3_readComparison_63 (fun v_ w1_ hp => ?_)
          obtain ⟨rfl, rfl⟩ := hp
          show Z X (0) (0) (rdw E r (rt 0) (.ref (rp 0)) (mrd S (nI p3)) ++ tpw E rt ST ++ plw E rp (mpv SP (nI ((G3.length) + 1)) (upd o3 (G3.length) (nI (sx p1))) (upd l3 (G3.length) (nI j1)) (upd r3 (G3.length) v3))) [(0, .ref (r 0)), (1, .int (nI op)), (2, .int (nI j1)), (3, .int (nI (sx p1)))] 66 [.int (nI (G3.length))]
          exact z_iret (pc := 66) F hR dX3_readComparison_66 (Nat.le_of_ble_eq_true rfl) (Nat.le_of_ble_eq_true rfl) (by subst e4; rw [show G3.length + 1 = (G3 ++ [(sx p1, nI j1, v3)]).length from (len_add _ _).symm]; exact ce_n rfl rfl (hoN_add hho3 rfl) (by rw [len_add]; omega) (Or.inr ⟨nI_nm (by omega), hv3.2⟩))
      · have b3 : (p1 + 1) ≤ p3 ∧ ((p1 + 1) ≤ tp → p3 ≤ tp) := by have q_ := ps_b h0 _ _ _ _ _ (by decide) h3; exact ⟨q_.1, q_.2.1⟩
        refine z_callVW (pc := 60) (q0 := 0) (ci := 3) (rest := [.int (nI j1), .int (nI (sx p1)), .ref (rp 0)]) F (cC_y (ihX) h3 (by omega) (by omega) (by omega) hho1) 1 ww_Reader_74 (by decide +kernel) rfl (by constructor <;> (dsimp only; omega)) ⟨Nat.le_of_ble_eq_true rfl, Nat.le_of_ble_eq_true rfl⟩ rfl rfl rfl rfl (Nat.le_of_ble_eq_true rfl) dX3_readComparison_60 (fun v_ w1_ hp => ?_)
        obtain ⟨j3, G3, o3, l3, r3, rfl, rfl, hho3, hln3, hj3, hB3⟩ := hp
        show Z X (0) (0) (rdw E r (rt 0) (.ref (rp 0)) (mrd S (nI p3)) ++ tpw E rt ST ++ plw E rp (mpv SP (nI G3.length) o3 l3 r3)) [(0, .ref (r 0)), (1, .int (nI op)), (2, .int (nI j1)), (3, .int (nI (sx p1)))] 63 [.int (nI j3), .int (nI j1), .int (nI (sx p1)), .ref (rp 0)]
        refine z_callV (pc := 63) (q0 := 3) (ci := 2) (wr := rdw E r (rt 0) (.ref (rp 0)) (mrd S (nI p3)) ++ tpw E rt ST) (rest := []) F (c_X2_join_y l E rp (mpv SP (nI G3.length) o3 l3 r3) (G3.length) (nI (sx p1)) (nI j1) (nI j3) (by omega) rfl (nar_ch (hsx p1)) (nI_nm (by omega)) (nI_nm (by omega))) 3 [3, 4, 5, 6] [0, 1, 2] rfl rfl ⟨by decide, by decide, by decide⟩ ww_Reader_95 (by decide +kernel) rfl (by constructor <;> (dsimp only; omega)) ⟨Nat.le_of_ble_eq_true rfl, Nat.le_of_ble_eq_true rfl⟩ rfl rfl rfl rfl (Nat.le_of_ble_eq_true rfl) dX3_readComparison_63 (fun v_ w1_ hp => ?_)
        obtain ⟨rfl, rfl⟩ := hp
        show Z X (0) (0) (rdw E r (rt 0) (.ref (rp 0)) (mrd S (nI p3)) ++ tpw E rt ST ++ plw E rp (mpv SP (nI ((G3.length) + 1)) (upd o3 (G3.length) (nI (sx p1))) (upd l3 (G3.length) (nI j1)) (upd r3 (G3.length) (nI j3)))) [(0, .ref (r 0)), (1, .int (nI op)), (2, .int (nI j1)), (3, .int (nI (sx p1)))] 66 [.int (nI (G3.length))]
        exact z_iret (pc := 66) F hR dX3_readComparison_66 (Nat.le_of_ble_eq_true rfl) (Nat.le_of_ble_eq_true rfl) (by cases e4; rw [show G3.length + 1 = (G3 ++ [(sx p1, nI j1, nI j3)]).length from (len_add _ _).symm]; exact ce_y rfl rfl rfl (hoN_add hho3 rfl) (by rw [len_add]; omega) rfl (by rw [len_add]; omega) (by have h_ := BL_bin hB1 hB3 (f := cmpO (sx p1)) (cmpO_r _); rw [cmpO_c kx] at h_; exact h_))
    · have k19 : ¬ sx p1 = 61 := fun h => c19 (by rw [h]; rfl)
      refine z_iload_n (pc := 22) F dX3_readComparison_22 rfl 3 rfl ?_
      refine z_bipush (pc := 23) (v := 35) F dX3_readComparison_23 (by decide) ?_
      refine z_icmp_eq (pc := 25) (tgt := 42) F dX3_readComparison_25 (by decide) (fun c25 => ?_) (fun c25 => ?_)
      · have k25 : sx p1 = 35 := nIe (b := 35) (by have := hsx (p1); omega) (by decide) c25
        have kx : sx p1 = 61 ∨ sx p1 = 35 ∨ sx p1 = 60 ∨ sx p1 = 62 := by omega
        have hlt1 : p1 < tp := sx_lt h0 (by omega)
        rw [if_pos kx] at h2
        refine z_aload_n (pc := 42) F dX3_readComparison_42 rfl 0 rfl ?_
        refine z_dup (pc := 43) F dX3_readComparison_43 rfl ?_
        refine z_get (pc := 44) (v := .int (nI p1)) F iX3 0 rfl rfl 2 (by decide) tw_149 rfl dX3_readComparison_44 ?_
        refine z_iconst (pc := 47) (v := 1) F dX3_readComparison_47 (by decide) ?_
        refine z_iadd (pc := 48) F dX3_readComparison_48 ?_
        rw [show ((nI p1) + 1) = nI (p1 + 1) from (nI_1 _)]
        refine z_put (pc := 49) (ws' := rdw E r (rt 0) (.ref (rp 0)) (mrd S (nI (p1 + 1))) ++ tpw E rt ST ++ plw E rp (mpv SP (nI G1.length) o1_ l1_ r1_)) F iX3 tyX3 tyX3_ok nmX3 0 rfl rfl 2 (by decide) tw_149 rfl rfl rfl (Nat.le_of_ble_eq_true rfl) dX3_readComparison_49 rfl ?_
        refine z_aload_n (pc := 52) F dX3_readComparison_52 rfl 0 rfl ?_
        refine z_get (pc := 53) (v := .ref (rp 0)) F iX3 0 rfl rfl 1 (by decide) tw_148 rfl dX3_readComparison_53 ?_
        refine z_iload_n (pc := 56) F dX3_readComparison_56 rfl 3 rfl ?_
        refine z_iload_n (pc := 57) F dX3_readComparison_57 rfl 2 rfl ?_
        refine z_aload_n (pc := 58) F dX3_readComparison_58 rfl 0 rfl ?_
        refine z_iload_n (pc := 59) F dX3_readComparison_59 rfl 1 rfl ?_
        obtain ⟨p3, c3, hh3⟩ := pthen_inv h2; rcases hh3 with ⟨h3, e4⟩ | ⟨h3, e4⟩
        · have b3 : (p1 + 1) ≤ p3 ∧ ((p1 + 1) ≤ tp → p3 ≤ tp) := by have q_ := ps_b h0 _ _ _ _ _ (by decide) h3; exact ⟨q_.1, q_.2.1⟩
          refine z_callVW (pc := 60) (q0 := 0) (ci := 3) (rest := [.int (nI j1), .int (nI (sx p1)), .ref (rp 0)]) F (cC_n (ihX) h3 (by omega) (by omega) (by omega) hho1) 1 ww_Reader_74 (by decide +kernel) rfl (by constructor <;> (dsimp only; omega)) ⟨Nat.le_of_ble_eq_true rfl, Nat.le_of_ble_eq_true rfl⟩ rfl rfl rfl rfl (Nat.le_of_ble_eq_true rfl) dX3_readComparison_60 (fun v_ w1_ hp => ?_)
          obtain ⟨v3, G3, o3, l3, r3, rfl, rfl, hho3, hln3, hv3⟩ := hp
          show Z X (0) (0) (rdw E r (rt 0) (.ref (rp 0)) (mrd S (nI p3)) ++ tpw E rt ST ++ plw E rp (mpv SP (nI G3.length) o3 l3 r3)) [(0, .ref (r 0)), (1, .int (nI op)), (2, .int (nI j1)), (3, .int (nI (sx p1)))] 63 [.int v3, .int (nI j1), .int (nI (sx p1)), .ref (rp 0)]
          rcases hv3 with hv3 | hv3
          · subst hv3
            refine z_callV (pc := 63) (q0 := 3) (ci := 2) (wr := rdw E r (rt 0) (.ref (rp 0)) (mrd S (nI p3)) ++ tpw E rt ST) (rest := []) F (c_X2_join_n l E rp (mpv SP (nI G3.length) o3 l3 r3) (nI (sx p1)) (nI j1) (-1) (Or.inr rfl)) 3 [3, 4, 5, 6] [0, 1, 2] rfl rfl ⟨by decide, by decide, by decide⟩ ww_Reader_95 (by decide +kernel) rfl (by constructor <;> (dsimp only; omega)) ⟨Nat.le_of_ble_eq_true rfl, Nat.le_of_ble_eq_true rfl⟩ rfl rfl rfl rfl (Nat.le_of_ble_eq_true rfl) dX3_readComparison_63 (fun v_ w1_ hp => ?_)
            obtain ⟨rfl, rfl⟩ := hp
            show Z X (0) (0) (rdw E r (rt 0) (.ref (rp 0)) (mrd S (nI p3)) ++ tpw E rt ST ++ plw E rp (mpv SP (nI G3.length) o3 l3 r3)) [(0, .ref (r 0)), (1, .int (nI op)), (2, .int (nI j1)), (3, .int (nI (sx p1)))] 66 [.int (-1)]
            exact z_iret (pc := 66) F hR dX3_readComparison_66 (Nat.le_of_ble_eq_true rfl) (Nat.le_of_ble_eq_true rfl) (by subst e4; exact ce_n rfl rfl hho3 (by omega) (Or.inl rfl))
          · skip
            refine z_callV (pc := 63) (q0 := 3) (ci := 2) (wr := rdw E r (rt 0) (.ref (rp 0)) (mrd S (nI p3)) ++ tpw E rt ST) (rest := []) F (c_X2_join_y l E rp (mpv SP (nI G3.length) o3 l3 r3) (G3.length) (nI (sx p1)) (nI j1) v3 (by omega) rfl (nar_ch (hsx p1)) (nI_nm (by omega)) hv3.1) 3 [3, 4, 5, 6] [0, 1, 2] rfl rfl ⟨by decide, by decide, by decide⟩ ww_Reader_95 (by decide +kernel) rfl (by constructor <;> (dsimp only; omega)) ⟨Nat.le_of_ble_eq_true rfl, Nat.le_of_ble_eq_true rfl⟩ rfl rfl rfl rfl (Nat.le_of_ble_eq_true rfl) dX3_readComparison_63 (fun v_ w1_ hp => ?_)
            obtain ⟨rfl, rfl⟩ := hp
            show Z X (0) (0) (rdw E r (rt 0) (.ref (rp 0)) (mrd S (nI p3)) ++ tpw E rt ST ++ plw E rp (mpv SP (nI ((G3.length) + 1)) (upd o3 (G3.length) (nI (sx p1))) (upd l3 (G3.length) (nI j1)) (upd r3 (G3.length) v3))) [(0, .ref (r 0)), (1, .int (nI op)), (2, .int (nI j1)), (3, .int (nI (sx p1)))] 66 [.int (nI (G3.length))]
            exact z_iret (pc := 66) F hR dX3_readComparison_66 (Nat.le_of_ble_eq_true rfl) (Nat.le_of_ble_eq_true rfl) (by subst e4; rw [show G3.length + 1 = (G3 ++ [(sx p1, nI j1, v3)]).length from (len_add _ _).symm]; exact ce_n rfl rfl (hoN_add hho3 rfl) (by rw [len_add]; omega) (Or.inr ⟨nI_nm (by omega), hv3.2⟩))
        · have b3 : (p1 + 1) ≤ p3 ∧ ((p1 + 1) ≤ tp → p3 ≤ tp) := by have q_ := ps_b h0 _ _ _ _ _ (by decide) h3; exact ⟨q_.1, q_.2.1⟩
          refine z_callVW (pc := 60) (q0 := 0) (ci := 3) (rest := [.int (nI j1), .int (nI (sx p1)), .ref (rp 0)]) F (cC_y (ihX) h3 (by omega) (by omega) (by omega) hho1) 1 ww_Reader_74 (by decide +kernel) rfl (by constructor <;> (dsimp only; omega)) ⟨Nat.le_of_ble_eq_true rfl, Nat.le_of_ble_eq_true rfl⟩ rfl rfl rfl rfl (Nat.le_of_ble_eq_true rfl) dX3_readComparison_60 (fun v_ w1_ hp => ?_)
          obtain ⟨j3, G3, o3, l3, r3, rfl, rfl, hho3, hln3, hj3, hB3⟩ := hp
          show Z X (0) (0) (rdw E r (rt 0) (.ref (rp 0)) (mrd S (nI p3)) ++ tpw E rt ST ++ plw E rp (mpv SP (nI G3.length) o3 l3 r3)) [(0, .ref (r 0)), (1, .int (nI op)), (2, .int (nI j1)), (3, .int (nI (sx p1)))] 63 [.int (nI j3), .int (nI j1), .int (nI (sx p1)), .ref (rp 0)]
          refine z_callV (pc := 63) (q0 := 3) (ci := 2) (wr := rdw E r (rt 0) (.ref (rp 0)) (mrd S (nI p3)) ++ tpw E rt ST) (rest := []) F (c_X2_join_y l E rp (mpv SP (nI G3.length) o3 l3 r3) (G3.length) (nI (sx p1)) (nI j1) (nI j3) (by omega) rfl (nar_ch (hsx p1)) (nI_nm (by omega)) (nI_nm (by omega))) 3 [3, 4, 5, 6] [0, 1, 2] rfl rfl ⟨by decide, by decide, by decide⟩ ww_Reader_95 (by decide +kernel) rfl (by constructor <;> (dsimp only; omega)) ⟨Nat.le_of_ble_eq_true rfl, Nat.le_of_ble_eq_true rfl⟩ rfl rfl rfl rfl (Nat.le_of_ble_eq_true rfl) dX3_readComparison_63 (fun v_ w1_ hp => ?_)
          obtain ⟨rfl, rfl⟩ := hp
          show Z X (0) (0) (rdw E r (rt 0) (.ref (rp 0)) (mrd S (nI p3)) ++ tpw E rt ST ++ plw E rp (mpv SP (nI ((G3.length) + 1)) (upd o3 (G3.length) (nI (sx p1))) (upd l3 (G3.length) (nI j1)) (upd r3 (G3.length) (nI j3)))) [(0, .ref (r 0)), (1, .int (nI op)), (2, .int (nI j1)), (3, .int (nI (sx p1)))] 66 [.int (nI (G3.length))]
          exact z_iret (pc := 66) F hR dX3_readComparison_66 (Nat.le_of_ble_eq_true rfl) (Nat.le_of_ble_eq_true rfl) (by cases e4; rw [show G3.length + 1 = (G3 ++ [(sx p1, nI j1, nI j3)]).length from (len_add _ _).symm]; exact ce_y rfl rfl rfl (hoN_add hho3 rfl) (by rw [len_add]; omega) rfl (by rw [len_add]; omega) (by have h_ := BL_bin hB1 hB3 (f := cmpO (sx p1)) (cmpO_r _); rw [cmpO_c kx] at h_; exact h_))
      · have k25 : ¬ sx p1 = 35 := fun h => c25 (by rw [h]; rfl)
        refine z_iload_n (pc := 28) F dX3_readComparison_28 rfl 3 rfl ?_
        refine z_bipush (pc := 29) (v := 60) F dX3_readComparison_29 (by decide) ?_
        refine z_icmp_eq (pc := 31) (tgt := 42) F dX3_readComparison_31 (by decide) (fun c31 => ?_) (fun c31 => ?_)
        · have k31 : sx p1 = 60 := nIe (b := 60) (by have := hsx (p1); omega) (by decide) c31
          have kx : sx p1 = 61 ∨ sx p1 = 35 ∨ sx p1 = 60 ∨ sx p1 = 62 := by omega
          have hlt1 : p1 < tp := sx_lt h0 (by omega)
          rw [if_pos kx] at h2
          refine z_aload_n (pc := 42) F dX3_readComparison_42 rfl 0 rfl ?_
          refine z_dup (pc := 43) F dX3_readComparison_43 rfl ?_
          refine z_get (pc := 44) (v := .int (nI p1)) F iX3 0 rfl rfl 2 (by decide) tw_149 rfl dX3_readComparison_44 ?_
          refine z_iconst (pc := 47) (v := 1) F dX3_readComparison_47 (by decide) ?_
          refine z_iadd (pc := 48) F dX3_readComparison_48 ?_
          rw [show ((nI p1) + 1) = nI (p1 + 1) from (nI_1 _)]
          refine z_put (pc := 49) (ws' := rdw E r (rt 0) (.ref (rp 0)) (mrd S (nI (p1 + 1))) ++ tpw E rt ST ++ plw E rp (mpv SP (nI G1.length) o1_ l1_ r1_)) F iX3 tyX3 tyX3_ok nmX3 0 rfl rfl 2 (by decide) tw_149 rfl rfl rfl (Nat.le_of_ble_eq_true rfl) dX3_readComparison_49 rfl ?_
          refine z_aload_n (pc := 52) F dX3_readComparison_52 rfl 0 rfl ?_
          refine z_get (pc := 53) (v := .ref (rp 0)) F iX3 0 rfl rfl 1 (by decide) tw_148 rfl dX3_readComparison_53 ?_
          refine z_iload_n (pc := 56) F dX3_readComparison_56 rfl 3 rfl ?_
          refine z_iload_n (pc := 57) F dX3_readComparison_57 rfl 2 rfl ?_
          refine z_aload_n (pc := 58) F dX3_readComparison_58 rfl 0 rfl ?_
          refine z_iload_n (pc := 59) F dX3_readComparison_59 rfl 1 rfl ?_
          obtain ⟨p3, c3, hh3⟩ := pthen_inv h2; rcases hh3 with ⟨h3, e4⟩ | ⟨h3, e4⟩
          · have b3 : (p1 + 1) ≤ p3 ∧ ((p1 + 1) ≤ tp → p3 ≤ tp) := by have q_ := ps_b h0 _ _ _ _ _ (by decide) h3; exact ⟨q_.1, q_.2.1⟩
            refine z_callVW (pc := 60) (q0 := 0) (ci := 3) (rest := [.int (nI j1), .int (nI (sx p1)), .ref (rp 0)]) F (cC_n (ihX) h3 (by omega) (by omega) (by omega) hho1) 1 ww_Reader_74 (by decide +kernel) rfl (by constructor <;> (dsimp only; omega)) ⟨Nat.le_of_ble_eq_true rfl, Nat.le_of_ble_eq_true rfl⟩ rfl rfl rfl rfl (Nat.le_of_ble_eq_true rfl) dX3_readComparison_60 (fun v_ w1_ hp => ?_)
            obtain ⟨v3, G3, o3, l3, r3, rfl, rfl, hho3, hln3, hv3⟩ := hp
            show Z X (0) (0) (rdw E r (rt 0) (.ref (rp 0)) (mrd S (nI p3)) ++ tpw E rt ST ++ plw E rp (mpv SP (nI G3.length) o3 l3 r3)) [(0, .ref (r 0)), (1, .int (nI op)), (2, .int (nI j1)), (3, .int (nI (sx p1)))] 63 [.int v3, .int (nI j1), .int (nI (sx p1)), .ref (rp 0)]
            rcases hv3 with hv3 | hv3
            · subst hv3
              refine z_callV (pc := 63) (q0 := 3) (ci := 2) (wr := rdw E r (rt 0) (.ref (rp 0)) (mrd S (nI p3)) ++ tpw E rt ST) (rest := []) F (c_X2_join_n l E rp (mpv SP (nI G3.length) o3 l3 r3) (nI (sx p1)) (nI j1) (-1) (Or.inr rfl)) 3 [3, 4, 5, 6] [0, 1, 2] rfl rfl ⟨by decide, by decide, by decide⟩ ww_Reader_95 (by decide +kernel) rfl (by constructor <;> (dsimp only; omega)) ⟨Nat.le_of_ble_eq_true rfl, Nat.le_of_ble_eq_true rfl⟩ rfl rfl rfl rfl (Nat.le_of_ble_eq_true rfl) dX3_readComparison_63 (fun v_ w1_ hp => ?_)
              obtain ⟨rfl, rfl⟩ := hp
              show Z X (0) (0) (rdw E r (rt 0) (.ref (rp 0)) (mrd S (nI p3)) ++ tpw E rt ST ++ plw E rp (mpv SP (nI G3.length) o3 l3 r3)) [(0, .ref (r 0)), (1, .int (nI op)), (2, .int (nI j1)), (3, .int (nI (sx p1)))] 66 [.int (-1)]
              exact z_iret (pc := 66) F hR dX3_readComparison_66 (Nat.le_of_ble_eq_true rfl) (Nat.le_of_ble_eq_true rfl) (by subst e4; exact ce_n rfl rfl hho3 (by omega) (Or.inl rfl))
            · skip
              refine z_callV (pc := 63) (q0 := 3) (ci := 2) (wr := rdw E r (rt 0) (.ref (rp 0)) (mrd S (nI p3)) ++ tpw E rt ST) (rest := []) F (c_X2_join_y l E rp (mpv SP (nI G3.length) o3 l3 r3) (G3.length) (nI (sx p1)) (nI j1) v3 (by omega) rfl (nar_ch (hsx p1)) (nI_nm (by omega)) hv3.1) 3 [3, 4, 5, 6] [0, 1, 2] rfl rfl ⟨by decide, by decide, by decide⟩ ww_Reader_95 (by decide +kernel) rfl (by constructor <;> (dsimp only; omega)) ⟨Nat.le_of_ble_eq_true rfl, Nat.le_of_ble_eq_true rfl⟩ rfl rfl rfl rfl (Nat.le_of_ble_eq_true rfl) dX3_readComparison_63 (fun v_ w1_ hp => ?_)
              obtain ⟨rfl, rfl⟩ := hp
              show Z X (0) (0) (rdw E r (rt 0) (.ref (rp 0)) (mrd S (nI p3)) ++ tpw E rt ST ++ plw E rp (mpv SP (nI ((G3.length) + 1)) (upd o3 (G3.length) (nI (sx p1))) (upd l3 (G3.length) (nI j1)) (upd r3 (G3.length) v3))) [(0, .ref (r 0)), (1, .int (nI op)), (2, .int (nI j1)), (3, .int (nI (sx p1)))] 66 [.int (nI (G3.length))]
              exact z_iret (pc := 66) F hR dX3_readComparison_66 (Nat.le_of_ble_eq_true rfl) (Nat.le_of_ble_eq_true rfl) (by subst e4; rw [show G3.length + 1 = (G3 ++ [(sx p1, nI j1, v3)]).length from (len_add _ _).symm]; exact ce_n rfl rfl (hoN_add hho3 rfl) (by rw [len_add]; omega) (Or.inr ⟨nI_nm (by omega), hv3.2⟩))
          · have b3 : (p1 + 1) ≤ p3 ∧ ((p1 + 1) ≤ tp → p3 ≤ tp) := by have q_ := ps_b h0 _ _ _ _ _ (by decide) h3; exact ⟨q_.1, q_.2.1⟩
            refine z_callVW (pc := 60) (q0 := 0) (ci := 3) (rest := [.int (nI j1), .int (nI (sx p1)), .ref (rp 0)]) F (cC_y (ihX) h3 (by omega) (by omega) (by omega) hho1) 1 ww_Reader_74 (by decide +kernel) rfl (by constructor <;> (dsimp only; omega)) ⟨Nat.le_of_ble_eq_true rfl, Nat.le_of_ble_eq_true rfl⟩ rfl rfl rfl rfl (Nat.le_of_ble_eq_true rfl) dX3_readComparison_60 (fun v_ w1_ hp => ?_)
            obtain ⟨j3, G3, o3, l3, r3, rfl, rfl, hho3, hln3, hj3, hB3⟩ := hp
            show Z X (0) (0) (rdw E r (rt 0) (.ref (rp 0)) (mrd S (nI p3)) ++ tpw E rt ST ++ plw E rp (mpv SP (nI G3.length) o3 l3 r3)) [(0, .ref (r 0)), (1, .int (nI op)), (2, .int (nI j1)), (3, .int (nI (sx p1)))] 63 [.int (nI j3), .int (nI j1), .int (nI (sx p1)), .ref (rp 0)]
            refine z_callV (pc := 63) (q0 := 3) (ci := 2) (wr := rdw E r (rt 0) (.ref (rp 0)) (mrd S (nI p3)) ++ tpw E rt ST) (rest := []) F (c_X2_join_y l E rp (mpv SP (nI G3.length) o3 l3 r3) (G3.length) (nI (sx p1)) (nI j1) (nI j3) (by omega) rfl (nar_ch (hsx p1)) (nI_nm (by omega)) (nI_nm (by omega))) 3 [3, 4, 5, 6] [0, 1, 2] rfl rfl ⟨by decide, by decide, by decide⟩ ww_Reader_95 (by decide +kernel) rfl (by constructor <;> (dsimp only; omega)) ⟨Nat.le_of_ble_eq_true rfl, Nat.le_of_ble_eq_true rfl⟩ rfl rfl rfl rfl (Nat.le_of_ble_eq_true rfl) dX3_readComparison_63 (fun v_ w1_ hp => ?_)
            obtain ⟨rfl, rfl⟩ := hp
            show Z X (0) (0) (rdw E r (rt 0) (.ref (rp 0)) (mrd S (nI p3)) ++ tpw E rt ST ++ plw E rp (mpv SP (nI ((G3.length) + 1)) (upd o3 (G3.length) (nI (sx p1))) (upd l3 (G3.length) (nI j1)) (upd r3 (G3.length) (nI j3)))) [(0, .ref (r 0)), (1, .int (nI op)), (2, .int (nI j1)), (3, .int (nI (sx p1)))] 66 [.int (nI (G3.length))]
            exact z_iret (pc := 66) F hR dX3_readComparison_66 (Nat.le_of_ble_eq_true rfl) (Nat.le_of_ble_eq_true rfl) (by cases e4; rw [show G3.length + 1 = (G3 ++ [(sx p1, nI j1, nI j3)]).length from (len_add _ _).symm]; exact ce_y rfl rfl rfl (hoN_add hho3 rfl) (by rw [len_add]; omega) rfl (by rw [len_add]; omega) (by have h_ := BL_bin hB1 hB3 (f := cmpO (sx p1)) (cmpO_r _); rw [cmpO_c kx] at h_; exact h_))
        · have k31 : ¬ sx p1 = 60 := fun h => c31 (by rw [h]; rfl)
          refine z_iload_n (pc := 34) F dX3_readComparison_34 rfl 3 rfl ?_
          refine z_bipush (pc := 35) (v := 62) F dX3_readComparison_35 (by decide) ?_
          refine z_icmp_eq (pc := 37) (tgt := 42) F dX3_readComparison_37 (by decide) (fun c37 => ?_) (fun c37 => ?_)
          · have k37 : sx p1 = 62 := nIe (b := 62) (by have := hsx (p1); omega) (by decide) c37
            have kx : sx p1 = 61 ∨ sx p1 = 35 ∨ sx p1 = 60 ∨ sx p1 = 62 := by omega
            have hlt1 : p1 < tp := sx_lt h0 (by omega)
            rw [if_pos kx] at h2
            refine z_aload_n (pc := 42) F dX3_readComparison_42 rfl 0 rfl ?_
            refine z_dup (pc := 43) F dX3_readComparison_43 rfl ?_
            refine z_get (pc := 44) (v := .int (nI p1)) F iX3 0 rfl rfl 2 (by decide) tw_149 rfl dX3_readComparison_44 ?_
            refine z_iconst (pc := 47) (v := 1) F dX3_readComparison_47 (by decide) ?_
            refine z_iadd (pc := 48) F dX3_readComparison_48 ?_
            rw [show ((nI p1) + 1) = nI (p1 + 1) from (nI_1 _)]
            refine z_put (pc := 49) (ws' := rdw E r (rt 0) (.ref (rp 0)) (mrd S (nI (p1 + 1))) ++ tpw E rt ST ++ plw E rp (mpv SP (nI G1.length) o1_ l1_ r1_)) F iX3 tyX3 tyX3_ok nmX3 0 rfl rfl 2 (by decide) tw_149 rfl rfl rfl (Nat.le_of_ble_eq_true rfl) dX3_readComparison_49 rfl ?_
            refine z_aload_n (pc := 52) F dX3_readComparison_52 rfl 0 rfl ?_
            refine z_get (pc := 53) (v := .ref (rp 0)) F iX3 0 rfl rfl 1 (by decide) tw_148 rfl dX3_readComparison_53 ?_
            refine z_iload_n (pc := 56) F dX3_readComparison_56 rfl 3 rfl ?_
            refine z_iload_n (pc := 57) F dX3_readComparison_57 rfl 2 rfl ?_
            refine z_aload_n (pc := 58) F dX3_readComparison_58 rfl 0 rfl ?_
            refine z_iload_n (pc := 59) F dX3_readComparison_59 rfl 1 rfl ?_
            obtain ⟨p3, c3, hh3⟩ := pthen_inv h2; rcases hh3 with ⟨h3, e4⟩ | ⟨h3, e4⟩
            · have b3 : (p1 + 1) ≤ p3 ∧ ((p1 + 1) ≤ tp → p3 ≤ tp) := by have q_ := ps_b h0 _ _ _ _ _ (by decide) h3; exact ⟨q_.1, q_.2.1⟩
              refine z_callVW (pc := 60) (q0 := 0) (ci := 3) (rest := [.int (nI j1), .int (nI (sx p1)), .ref (rp 0)]) F (cC_n (ihX) h3 (by omega) (by omega) (by omega) hho1) 1 ww_Reader_74 (by decide +kernel) rfl (by constructor <;> (dsimp only; omega)) ⟨Nat.le_of_ble_eq_true rfl, Nat.le_of_ble_eq_true rfl⟩ rfl rfl rfl rfl (Nat.le_of_ble_eq_true rfl) dX3_readComparison_60 (fun v_ w1_ hp => ?_)
              obtain ⟨v3, G3, o3, l3, r3, rfl, rfl, hho3, hln3, hv3⟩ := hp
              show Z X (0) (0) (rdw E r (rt 0) (.ref (rp 0)) (mrd S (nI p3)) ++ tpw E rt ST ++ plw E rp (mpv SP (nI G3.length) o3 l3 r3)) [(0, .ref (r 0)), (1, .int (nI op)), (2, .int (nI j1)), (3, .int (nI (sx p1)))] 63 [.int v3, .int (nI j1), .int (nI (sx p1)), .ref (rp 0)]
              rcases hv3 with hv3 | hv3
              · subst hv3
                refine z_callV (pc := 63) (q0 := 3) (ci := 2) (wr := rdw E r (rt 0) (.ref (rp 0)) (mrd S (nI p3)) ++ tpw E rt ST) (rest := []) F (c_X2_join_n l E rp (mpv SP (nI G3.length) o3 l3 r3) (nI (sx p1)) (nI j1) (-1) (Or.inr rfl)) 3 [3, 4, 5, 6] [0, 1, 2] rfl rfl ⟨by decide, by decide, by decide⟩ ww_Reader_95 (by decide +kernel) rfl (by constructor <;> (dsimp only; omega)) ⟨Nat.le_of_ble_eq_true rfl, Nat.le_of_ble_eq_true rfl⟩ rfl rfl rfl rfl (Nat.le_of_ble_eq_true rfl) dX3_readComparison_63 (fun v_ w1_ hp => ?_)
                obtain ⟨rfl, rfl⟩ := hp
                show Z X (0) (0) (rdw E r (rt 0) (.ref (rp 0)) (mrd S (nI p3)) ++ tpw E rt ST ++ plw E rp (mpv SP (nI G3.length) o3 l3 r3)) [(0, .ref (r 0)), (1, .int (nI op)), (2, .int (nI j1)), (3, .int (nI (sx p1)))] 66 [.int (-1)]
                exact z_iret (pc := 66) F hR dX3_readComparison_66 (Nat.le_of_ble_eq_true rfl) (Nat.le_of_ble_eq_true rfl) (by subst e4; exact ce_n rfl rfl hho3 (by omega) (Or.inl rfl))
              · skip
                refine z_callV (pc := 63) (q0 := 3) (ci := 2) (wr := rdw E r (rt 0) (.ref (rp 0)) (mrd S (nI p3)) ++ tpw E rt ST) (rest := []) F (c_X2_join_y l E rp (mpv SP (nI G3.length) o3 l3 r3) (G3.length) (nI (sx p1)) (nI j1) v3 (by omega) rfl (nar_ch (hsx p1)) (nI_nm (by omega)) hv3.1) 3 [3, 4, 5, 6] [0, 1, 2] rfl rfl ⟨by decide, by decide, by decide⟩ ww_Reader_95 (by decide +kernel) rfl (by constructor <;> (dsimp only; omega)) ⟨Nat.le_of_ble_eq_true rfl, Nat.le_of_ble_eq_true rfl⟩ rfl rfl rfl rfl (Nat.le_of_ble_eq_true rfl) dX3_readComparison_63 (fun v_ w1_ hp => ?_)
                obtain ⟨rfl, rfl⟩ := hp
                show Z X (0) (0) (rdw E r (rt 0) (.ref (rp 0)) (mrd S (nI p3)) ++ tpw E rt ST ++ plw E rp (mpv SP (nI ((G3.length) + 1)) (upd o3 (G3.length) (nI (sx p1))) (upd l3 (G3.length) (nI j1)) (upd r3 (G3.length) v3))) [(0, .ref (r 0)), (1, .int (nI op)), (2, .int (nI j1)), (3, .int (nI (sx p1)))] 66 [.int (nI (G3.length))]
                exact z_iret (pc := 66) F hR dX3_readComparison_66 (Nat.le_of_ble_eq_true rfl) (Nat.le_of_ble_eq_true rfl) (by subst e4; rw [show G3.length + 1 = (G3 ++ [(sx p1, nI j1, v3)]).length from (len_add _ _).symm]; exact ce_n rfl rfl (hoN_add hho3 rfl) (by rw [len_add]; omega) (Or.inr ⟨nI_nm (by omega), hv3.2⟩))
            · have b3 : (p1 + 1) ≤ p3 ∧ ((p1 + 1) ≤ tp → p3 ≤ tp) := by have q_ := ps_b h0 _ _ _ _ _ (by decide) h3; exact ⟨q_.1, q_.2.1⟩
              refine z_callVW (pc := 60) (q0 := 0) (ci := 3) (rest := [.int (nI j1), .int (nI (sx p1)), .ref (rp 0)]) F (cC_y (ihX) h3 (by omega) (by omega) (by omega) hho1) 1 ww_Reader_74 (by decide +kernel) rfl (by constructor <;> (dsimp only; omega)) ⟨Nat.le_of_ble_eq_true rfl, Nat.le_of_ble_eq_true rfl⟩ rfl rfl rfl rfl (Nat.le_of_ble_eq_true rfl) dX3_readComparison_60 (fun v_ w1_ hp => ?_)
              obtain ⟨j3, G3, o3, l3, r3, rfl, rfl, hho3, hln3, hj3, hB3⟩ := hp
              show Z X (0) (0) (rdw E r (rt 0) (.ref (rp 0)) (mrd S (nI p3)) ++ tpw E rt ST ++ plw E rp (mpv SP (nI G3.length) o3 l3 r3)) [(0, .ref (r 0)), (1, .int (nI op)), (2, .int (nI j1)), (3, .int (nI (sx p1)))] 63 [.int (nI j3), .int (nI j1), .int (nI (sx p1)), .ref (rp 0)]
              refine z_callV (pc := 63) (q0 := 3) (ci := 2) (wr := rdw E r (rt 0) (.ref (rp 0)) (mrd S (nI p3)) ++ tpw E rt ST) (rest := []) F (c_X2_join_y l E rp (mpv SP (nI G3.length) o3 l3 r3) (G3.length) (nI (sx p1)) (nI j1) (nI j3) (by omega) rfl (nar_ch (hsx p1)) (nI_nm (by omega)) (nI_nm (by omega))) 3 [3, 4, 5, 6] [0, 1, 2] rfl rfl ⟨by decide, by decide, by decide⟩ ww_Reader_95 (by decide +kernel) rfl (by constructor <;> (dsimp only; omega)) ⟨Nat.le_of_ble_eq_true rfl, Nat.le_of_ble_eq_true rfl⟩ rfl rfl rfl rfl (Nat.le_of_ble_eq_true rfl) dX3_readComparison_63 (fun v_ w1_ hp => ?_)
              obtain ⟨rfl, rfl⟩ := hp
              show Z X (0) (0) (rdw E r (rt 0) (.ref (rp 0)) (mrd S (nI p3)) ++ tpw E rt ST ++ plw E rp (mpv SP (nI ((G3.length) + 1)) (upd o3 (G3.length) (nI (sx p1))) (upd l3 (G3.length) (nI j1)) (upd r3 (G3.length) (nI j3)))) [(0, .ref (r 0)), (1, .int (nI op)), (2, .int (nI j1)), (3, .int (nI (sx p1)))] 66 [.int (nI (G3.length))]
              exact z_iret (pc := 66) F hR dX3_readComparison_66 (Nat.le_of_ble_eq_true rfl) (Nat.le_of_ble_eq_true rfl) (by cases e4; rw [show G3.length + 1 = (G3 ++ [(sx p1, nI j1, nI j3)]).length from (len_add _ _).symm]; exact ce_y rfl rfl rfl (hoN_add hho3 rfl) (by rw [len_add]; omega) rfl (by rw [len_add]; omega) (by have h_ := BL_bin hB1 hB3 (f := cmpO (sx p1)) (cmpO_r _); rw [cmpO_c kx] at h_; exact h_))
          · have k37 : ¬ sx p1 = 62 := fun h => c37 (by rw [h]; rfl)
            refine z_iconst (pc := 40) (v := (-1)) F dX3_readComparison_40 (by decide) ?_
            exact z_iret (pc := 41) F hR dX3_readComparison_41 (Nat.le_of_ble_eq_true rfl) (Nat.le_of_ble_eq_true rfl) (by rw [if_neg (by omega)] at h2; cases h2; exact ce_n rfl rfl hho1 hln1 (Or.inl rfl))
set_option maxHeartbeats 4000000 in
set_option maxRecDepth 100000 in
theorem c_X3_readTest_p (l : Launch) (E : zE) (r : Nat → Nat) (rt : Nat → Nat) (rp : Nat → Nat) (S : zS) (ST : zS) (SP : zS) (tp : Nat) (sx : Nat → Nat) (n : Nat) (p : Nat) (op : Nat) (G : List zNd) (o1 : Nat → Int32) (l1 : Nat → Int32) (r1 : Nat → Int32) (R : zRs) (ht : tpC ST tp sx) (ihT : ∀ m : Nat, m < n → cC l E r rt rp S ST SP tp sx yX3_readTest cX3_readTest 4 (fun p op R => ps sx m 4 p op = some R) m) (ihB : ∀ m : Nat, m < n → cC l E r rt rp S ST SP tp sx yX3_readOr cX3_readOr 4 (fun p op R => ps sx m 0 p op = some R) m) (ihX : ∀ m : Nat, m < n → cC l E r rt rp S ST SP tp sx yX3_readX cX3_readX 5 (fun p op R => ps sx m 5 p op = some R) m) (hH : ps sx n 4 p op = some R) (hp : p ≤ tp) (hN : G.length ≤ p) (hop : op ≤ 12) (hho : hoN G o1 l1 r1) : Ct l yX3_readTest cX3_readTest 4 (some .int) (prc n) E (rdw E r (rt 0) (.ref (rp 0)) (mrd S (nI p)) ++ tpw E rt ST ++ plw E rp (mpv SP (nI G.length) o1 l1 r1)) [.ref (r 0), .int (nI op)] (fun v_ w_ => ∃ v : Int32, ∃ G' : List zNd, ∃ o' : Nat → Int32, ∃ l' : Nat → Int32, ∃ r' : Nat → Int32, v_ = some (.int v) ∧ w_ = rdw E r (rt 0) (.ref (rp 0)) (mrd S (nI R.2.1)) ++ tpw E rt ST ++ plw E rp (mpv SP (nI G'.length) o' l' r') ∧ (hoN G' o' l' r') ∧ (cFin sx G p R v G')) := by
  refine Ct.of (by decide) (Nat.le_of_ble_eq_true rfl) (lv := [(0, .ref (r 0)), (1, .int (nI op))]) rfl ?_
  intro X F hR
  have F : zF X l (prc n) E cX3_readTest 4 "LiveQueries$Reader" := F
  have htp := ht.2.1
  have hsx := ht.2.2.2.2
  have h0 := ht.2.2.2.1
  obtain ⟨n', rfl⟩ : ∃ n', n = n' + 1 := by cases n with | zero => cases hH | succ n' => exact ⟨n', rfl⟩
  refine z_aload_n (pc := 0) F dX3_readTest_0 rfl 0 rfl ?_
  refine z_callVW (pc := 1) (q0 := 0) (ci := 3) (rest := []) F (c_X3_peek l E r rt rp S ST (mpv SP (nI G.length) o1 l1 r1) tp sx p ht hp) 0 ww_Reader_51 (by decide +kernel) rfl (by constructor <;> (dsimp only; omega)) ⟨Nat.le_of_ble_eq_true rfl, Nat.le_of_ble_eq_true rfl⟩ rfl rfl rfl rfl (Nat.le_of_ble_eq_true rfl) dX3_readTest_1 (fun v_ w1_ hp => ?_)
  obtain ⟨rfl, rfl⟩ := hp
  show Z X (0) (0) (rdw E r (rt 0) (.ref (rp 0)) (mrd S (nI p)) ++ tpw E rt ST ++ plw E rp (mpv SP (nI G.length) o1 l1 r1)) [(0, .ref (r 0)), (1, .int (nI op))] 4 [.int (nI (sx p))]
  refine z_istore_n (pc := 4) (lv' := [(0, .ref (r 0)), (1, .int (nI op)), (2, .int (nI (sx p)))]) F dX3_readTest_4 rfl (by decide) [1, 2, 0] rfl ?_
  refine z_iload_n (pc := 5) F dX3_readTest_5 rfl 2 rfl ?_
  refine z_bipush (pc := 6) (v := 33) F dX3_readTest_6 (by decide) ?_
  refine z_icmp_eq (pc := 8) (tgt := 23) F dX3_readTest_8 (by decide) (fun c8 => ?_) (fun c8 => ?_)
  · have kA : sx p = 33 := nIe (b := 33) (by have := hsx (p); omega) (by decide) c8
    have hltp : p < tp := sx_lt h0 (by omega)
    refine z_iload_n (pc := 23) F dX3_readTest_23 rfl 1 rfl ?_
    refine z_bipush (pc := 24) (v := 12) F dX3_readTest_24 (by decide) ?_
    refine z_icmp_lt (pc := 26) (tgt := 31) F dX3_readTest_26 (by decide) (fun c26 => ?_) (fun c26 => ?_)
    · have ho12 := (nI_ltI (b := 12) (by omega) (by decide)).mp c26
      refine z_aload_n (pc := 31) F dX3_readTest_31 rfl 0 rfl ?_
      refine z_dup (pc := 32) F dX3_readTest_32 rfl ?_
      refine z_get (pc := 33) (v := .int (nI p)) F iX3 0 rfl rfl 2 (by decide) tw_149 rfl dX3_readTest_33 ?_
      refine z_iconst (pc := 36) (v := 1) F dX3_readTest_36 (by decide) ?_
      refine z_iadd (pc := 37) F dX3_readTest_37 ?_
      rw [show ((nI p) + 1) = nI (p + 1) from (nI_1 _)]
      refine z_put (pc := 38) (ws' := rdw E r (rt 0) (.ref (rp 0)) (mrd S (nI (p + 1))) ++ tpw E rt ST ++ plw E rp (mpv SP (nI G.length) o1 l1 r1)) F iX3 tyX3 tyX3_ok nmX3 0 rfl rfl 2 (by decide) tw_149 rfl rfl rfl (Nat.le_of_ble_eq_true rfl) dX3_readTest_38 rfl ?_
      refine z_iload_n (pc := 41) F dX3_readTest_41 rfl 2 rfl ?_
      refine z_bipush (pc := 42) (v := 33) F dX3_readTest_42 (by decide) ?_
      refine z_icmp_ne (pc := 44) (tgt := 67) F dX3_readTest_44 (by decide) (fun c44 => absurd c44 (fun h => h (by rw [kA]; rfl))) (fun c44 => ?_)
      refine z_aload_n (pc := 47) F dX3_readTest_47 rfl 0 rfl ?_
      refine z_iload_n (pc := 48) F dX3_readTest_48 rfl 1 rfl ?_
      refine z_iconst (pc := 49) (v := 1) F dX3_readTest_49 (by decide) ?_
      refine z_iadd (pc := 50) F dX3_readTest_50 ?_
      rw [show ((nI op) + 1) = nI (op + 1) from (nI_1 _)]
      obtain ⟨p3, c3, hh3⟩ := pthen_inv (p4_my hH kA (by omega)); rcases hh3 with ⟨h3, e4⟩ | ⟨h3, e4⟩
      · have b3 : (p + 1) ≤ p3 ∧ ((p + 1) ≤ tp → p3 ≤ tp) := by have q_ := ps_b h0 _ _ _ _ _ (by decide) h3; exact ⟨q_.1, q_.2.1⟩
        refine z_callVW (pc := 51) (q0 := 0) (ci := 3) (rest := []) F (cC_n (ihT n' (by omega)) h3 (by omega) (by omega) (by omega) hho) 1 ww_Reader_99 (by decide +kernel) rfl (by constructor <;> (dsimp only; omega)) ⟨Nat.le_of_ble_eq_true rfl, Nat.le_of_ble_eq_true rfl⟩ rfl rfl rfl rfl (Nat.le_of_ble_eq_true rfl) dX3_readTest_51 (fun v_ w1_ hp => ?_)
        obtain ⟨v3, G3, o3, l3, r3, rfl, rfl, hho3, hln3, hv3⟩ := hp
        show Z X (0) (0) (rdw E r (rt 0) (.ref (rp 0)) (mrd S (nI p3)) ++ tpw E rt ST ++ plw E rp (mpv SP (nI G3.length) o3 l3 r3)) [(0, .ref (r 0)), (1, .int (nI op)), (2, .int (nI (sx p)))] 54 [.int v3]
        refine z_istore_n (pc := 54) (lv' := [(0, .ref (r 0)), (1, .int (nI op)), (2, .int (nI (sx p))), (3, .int v3)]) F dX3_readTest_54 rfl (by decide) [1, 2, 3, 0] rfl ?_
        refine z_aload_n (pc := 55) F dX3_readTest_55 rfl 0 rfl ?_
        refine z_get (pc := 56) (v := .ref (rp 0)) F iX3 0 rfl rfl 1 (by decide) tw_148 rfl dX3_readTest_56 ?_
        refine z_bipush (pc := 59) (v := 33) F dX3_readTest_59 (by decide) ?_
        refine z_iload_n (pc := 61) F dX3_readTest_61 rfl 3 rfl ?_
        refine z_iload_n (pc := 62) F dX3_readTest_62 rfl 3 rfl ?_
        rcases hv3 with hv3 | hv3
        · subst hv3
          refine z_callV (pc := 63) (q0 := 3) (ci := 2) (wr := rdw E r (rt 0) (.ref (rp 0)) (mrd S (nI p3)) ++ tpw E rt ST) (rest := []) F (c_X2_join_n l E rp (mpv SP (nI G3.length) o3 l3 r3) 33 (-1) (-1) (Or.inl rfl)) 3 [3, 4, 5, 6] [0, 1, 2] rfl rfl ⟨by decide, by decide, by decide⟩ ww_Reader_95 (by decide +kernel) rfl (by constructor <;> (dsimp only; omega)) ⟨Nat.le_of_ble_eq_true rfl, Nat.le_of_ble_eq_true rfl⟩ rfl rfl rfl rfl (Nat.le_of_ble_eq_true rfl) dX3_readTest_63 (fun v_ w1_ hp => ?_)
          obtain ⟨rfl, rfl⟩ := hp
          show Z X (0) (0) (rdw E r (rt 0) (.ref (rp 0)) (mrd S (nI p3)) ++ tpw E rt ST ++ plw E rp (mpv SP (nI G3.length) o3 l3 r3)) [(0, .ref (r 0)), (1, .int (nI op)), (2, .int (nI (sx p))), (3, .int (-1))] 66 [.int (-1)]
          exact z_iret (pc := 66) F hR dX3_readTest_66 (Nat.le_of_ble_eq_true rfl) (Nat.le_of_ble_eq_true rfl) (by subst e4; exact ce_n rfl rfl hho3 (by omega) (Or.inl rfl))
        · skip
          refine z_callV (pc := 63) (q0 := 3) (ci := 2) (wr := rdw E r (rt 0) (.ref (rp 0)) (mrd S (nI p3)) ++ tpw E rt ST) (rest := []) F (c_X2_join_y l E rp (mpv SP (nI G3.length) o3 l3 r3) (G3.length) 33 v3 v3 (by omega) rfl (by decide) hv3.1 hv3.1) 3 [3, 4, 5, 6] [0, 1, 2] rfl rfl ⟨by decide, by decide, by decide⟩ ww_Reader_95 (by decide +kernel) rfl (by constructor <;> (dsimp only; omega)) ⟨Nat.le_of_ble_eq_true rfl, Nat.le_of_ble_eq_true rfl⟩ rfl rfl rfl rfl (Nat.le_of_ble_eq_true rfl) dX3_readTest_63 (fun v_ w1_ hp => ?_)
          obtain ⟨rfl, rfl⟩ := hp
          show Z X (0) (0) (rdw E r (rt 0) (.ref (rp 0)) (mrd S (nI p3)) ++ tpw E rt ST ++ plw E rp (mpv SP (nI ((G3.length) + 1)) (upd o3 (G3.length) 33) (upd l3 (G3.length) v3) (upd r3 (G3.length) v3))) [(0, .ref (r 0)), (1, .int (nI op)), (2, .int (nI (sx p))), (3, .int v3)] 66 [.int (nI (G3.length))]
          exact z_iret (pc := 66) F hR dX3_readTest_66 (Nat.le_of_ble_eq_true rfl) (Nat.le_of_ble_eq_true rfl) (by subst e4; rw [show G3.length + 1 = (G3 ++ [(33, v3, v3)]).length from (len_add _ _).symm]; exact ce_n rfl rfl (hoN_add hho3 (c := 33) rfl) (by rw [len_add]; omega) (Or.inr ⟨nI_nm (by omega), hv3.2⟩))
      · have b3 : (p + 1) ≤ p3 ∧ ((p + 1) ≤ tp → p3 ≤ tp) := by have q_ := ps_b h0 _ _ _ _ _ (by decide) h3; exact ⟨q_.1, q_.2.1⟩
        refine z_callVW (pc := 51) (q0 := 0) (ci := 3) (rest := []) F (cC_y (ihT n' (by omega)) h3 (by omega) (by omega) (by omega) hho) 1 ww_Reader_99 (by decide +kernel) rfl (by constructor <;> (dsimp only; omega)) ⟨Nat.le_of_ble_eq_true rfl, Nat.le_of_ble_eq_true rfl⟩ rfl rfl rfl rfl (Nat.le_of_ble_eq_true rfl) dX3_readTest_51 (fun v_ w1_ hp => ?_)
        obtain ⟨j3, G3, o3, l3, r3, rfl, rfl, hho3, hln3, hj3, hB3⟩ := hp
        show Z X (0) (0) (rdw E r (rt 0) (.ref (rp 0)) (mrd S (nI p3)) ++ tpw E rt ST ++ plw E rp (mpv SP (nI G3.length) o3 l3 r3)) [(0, .ref (r 0)), (1, .int (nI op)), (2, .int (nI (sx p)))] 54 [.int (nI j3)]
        refine z_istore_n (pc := 54) (lv' := [(0, .ref (r 0)), (1, .int (nI op)), (2, .int (nI (sx p))), (3, .int (nI j3))]) F dX3_readTest_54 rfl (by decide) [1, 2, 3, 0] rfl ?_
        refine z_aload_n (pc := 55) F dX3_readTest_55 rfl 0 rfl ?_
        refine z_get (pc := 56) (v := .ref (rp 0)) F iX3 0 rfl rfl 1 (by decide) tw_148 rfl dX3_readTest_56 ?_
        refine z_bipush (pc := 59) (v := 33) F dX3_readTest_59 (by decide) ?_
        refine z_iload_n (pc := 61) F dX3_readTest_61 rfl 3 rfl ?_
        refine z_iload_n (pc := 62) F dX3_readTest_62 rfl 3 rfl ?_
        refine z_callV (pc := 63) (q0 := 3) (ci := 2) (wr := rdw E r (rt 0) (.ref (rp 0)) (mrd S (nI p3)) ++ tpw E rt ST) (rest := []) F (c_X2_join_y l E rp (mpv SP (nI G3.length) o3 l3 r3) (G3.length) 33 (nI j3) (nI j3) (by omega) rfl (by decide) (nI_nm (by omega)) (nI_nm (by omega))) 3 [3, 4, 5, 6] [0, 1, 2] rfl rfl ⟨by decide, by decide, by decide⟩ ww_Reader_95 (by decide +kernel) rfl (by constructor <;> (dsimp only; omega)) ⟨Nat.le_of_ble_eq_true rfl, Nat.le_of_ble_eq_true rfl⟩ rfl rfl rfl rfl (Nat.le_of_ble_eq_true rfl) dX3_readTest_63 (fun v_ w1_ hp => ?_)
        obtain ⟨rfl, rfl⟩ := hp
        show Z X (0) (0) (rdw E r (rt 0) (.ref (rp 0)) (mrd S (nI p3)) ++ tpw E rt ST ++ plw E rp (mpv SP (nI ((G3.length) + 1)) (upd o3 (G3.length) 33) (upd l3 (G3.length) (nI j3)) (upd r3 (G3.length) (nI j3)))) [(0, .ref (r 0)), (1, .int (nI op)), (2, .int (nI (sx p))), (3, .int (nI j3))] 66 [.int (nI (G3.length))]
        exact z_iret (pc := 66) F hR dX3_readTest_66 (Nat.le_of_ble_eq_true rfl) (Nat.le_of_ble_eq_true rfl) (by cases e4; rw [show G3.length + 1 = (G3 ++ [(33, nI j3, nI j3)]).length from (len_add _ _).symm]; exact ce_y rfl rfl rfl (hoN_add hho3 (c := 33) rfl) (by rw [len_add]; omega) rfl (by rw [len_add]; omega) (BL_un hB3 (f := 21) (by decide)))
    · have ho12 : op = 12 := nlt12 hop c26
      refine z_iconst (pc := 29) (v := (-1)) F dX3_readTest_29 (by decide) ?_
      exact z_iret (pc := 30) F hR dX3_readTest_30 (Nat.le_of_ble_eq_true rfl) (Nat.le_of_ble_eq_true rfl) (by have e4 := p4_mn hH kA ho12; subst e4; exact ce_n rfl rfl hho (Nat.le_refl _) (Or.inl rfl))
  · have kA : ¬ sx p = 33 := fun h => c8 (by rw [h]; rfl)
    refine z_iload_n (pc := 11) F dX3_readTest_11 rfl 2 rfl ?_
    refine z_bipush (pc := 12) (v := 123) F dX3_readTest_12 (by decide) ?_
    refine z_icmp_eq (pc := 14) (tgt := 23) F dX3_readTest_14 (by decide) (fun c14 => ?_) (fun c14 => ?_)
    · have kB : sx p = 123 := nIe (b := 123) (by have := hsx (p); omega) (by decide) c14
      have hltp : p < tp := sx_lt h0 (by omega)
      refine z_iload_n (pc := 23) F dX3_readTest_23 rfl 1 rfl ?_
      refine z_bipush (pc := 24) (v := 12) F dX3_readTest_24 (by decide) ?_
      refine z_icmp_lt (pc := 26) (tgt := 31) F dX3_readTest_26 (by decide) (fun c26 => ?_) (fun c26 => ?_)
      · have ho12 := (nI_ltI (b := 12) (by omega) (by decide)).mp c26
        refine z_aload_n (pc := 31) F dX3_readTest_31 rfl 0 rfl ?_
        refine z_dup (pc := 32) F dX3_readTest_32 rfl ?_
        refine z_get (pc := 33) (v := .int (nI p)) F iX3 0 rfl rfl 2 (by decide) tw_149 rfl dX3_readTest_33 ?_
        refine z_iconst (pc := 36) (v := 1) F dX3_readTest_36 (by decide) ?_
        refine z_iadd (pc := 37) F dX3_readTest_37 ?_
        rw [show ((nI p) + 1) = nI (p + 1) from (nI_1 _)]
        refine z_put (pc := 38) (ws' := rdw E r (rt 0) (.ref (rp 0)) (mrd S (nI (p + 1))) ++ tpw E rt ST ++ plw E rp (mpv SP (nI G.length) o1 l1 r1)) F iX3 tyX3 tyX3_ok nmX3 0 rfl rfl 2 (by decide) tw_149 rfl rfl rfl (Nat.le_of_ble_eq_true rfl) dX3_readTest_38 rfl ?_
        refine z_iload_n (pc := 41) F dX3_readTest_41 rfl 2 rfl ?_
        refine z_bipush (pc := 42) (v := 33) F dX3_readTest_42 (by decide) ?_
        refine z_icmp_ne (pc := 44) (tgt := 67) F dX3_readTest_44 (by decide) (fun c44 => ?_) (fun c44 => absurd c44 (fun h => kA (nIe (b := 33) (by have := hsx p; omega) (by decide) h)))
        refine z_aload_n (pc := 67) F dX3_readTest_67 rfl 0 rfl ?_
        refine z_iload_n (pc := 68) F dX3_readTest_68 rfl 1 rfl ?_
        refine z_iconst (pc := 69) (v := 1) F dX3_readTest_69 (by decide) ?_
        refine z_iadd (pc := 70) F dX3_readTest_70 ?_
        rw [show ((nI op) + 1) = nI (op + 1) from (nI_1 _)]
        obtain ⟨p3, c3, hh3⟩ := pthen_inv (p4_py hH kA kB (by omega)); rcases hh3 with ⟨h3, e4⟩ | ⟨h3, e4⟩
        · have b3 : (p + 1) ≤ p3 ∧ ((p + 1) ≤ tp → p3 ≤ tp) := by have q_ := ps_b h0 _ _ _ _ _ (by decide) h3; exact ⟨q_.1, q_.2.1⟩
          refine z_callVW (pc := 71) (q0 := 0) (ci := 3) (rest := []) F (cC_n (ihB n' (by omega)) h3 (by omega) (by omega) (by omega) hho) 1 ww_Reader_67 (by decide +kernel) rfl (by constructor <;> (dsimp only; omega)) ⟨Nat.le_of_ble_eq_true rfl, Nat.le_of_ble_eq_true rfl⟩ rfl rfl rfl rfl (Nat.le_of_ble_eq_true rfl) dX3_readTest_71 (fun v_ w1_ hp => ?_)
          obtain ⟨v3, G3, o3, l3, r3, rfl, rfl, hho3, hln3, hv3⟩ := hp
          show Z X (0) (0) (rdw E r (rt 0) (.ref (rp 0)) (mrd S (nI p3)) ++ tpw E rt ST ++ plw E rp (mpv SP (nI G3.length) o3 l3 r3)) [(0, .ref (r 0)), (1, .int (nI op)), (2, .int (nI (sx p)))] 74 [.int v3]
          refine z_istore_n (pc := 74) (lv' := [(0, .ref (r 0)), (1, .int (nI op)), (2, .int (nI (sx p))), (3, .int v3)]) F dX3_readTest_74 rfl (by decide) [1, 2, 3, 0] rfl ?_
          rcases hv3 with hv3 | hv3
          · subst hv3
            refine z_iload_n (pc := 75) F dX3_readTest_75 rfl 3 rfl ?_
            refine z_iconst (pc := 76) (v := (-1)) F dX3_readTest_76 (by decide) ?_
            refine z_icmp_eq (pc := 77) (tgt := 93) F dX3_readTest_77 (by decide) (fun _ => ?_) (fun h => absurd h (by decide))
            refine z_iconst (pc := 93) (v := (-1)) F dX3_readTest_93 (by decide) ?_
            exact z_iret (pc := 94) F hR dX3_readTest_94 (Nat.le_of_ble_eq_true rfl) (Nat.le_of_ble_eq_true rfl) (by subst e4; exact ce_n rfl rfl hho3 (by omega) (Or.inl rfl))
          · skip
            refine z_iload_n (pc := 75) F dX3_readTest_75 rfl 3 rfl ?_
            refine z_iconst (pc := 76) (v := (-1)) F dX3_readTest_76 (by decide) ?_
            refine z_icmp_eq (pc := 77) (tgt := 93) F dX3_readTest_77 (by decide) (fun c77 => absurd c77 hv3.1) (fun c77 => ?_)
            refine z_aload_n (pc := 80) F dX3_readTest_80 rfl 0 rfl ?_
            refine z_bipush (pc := 81) (v := 125) F dX3_readTest_81 (by decide) ?_
            have kx : ¬ sx p3 = 125 := isD_ne hv3.2 (by decide)
            · have e5 := e4
              refine z_callVW (pc := 83) (q0 := 0) (ci := 3) (rest := []) F (c_X3_pass_n l E r rt rp S ST (mpv SP (nI G3.length) o3 l3 r3) tp sx p3 125 ht (by omega) (by decide) kx) 1 ww_Reader_32 (by decide +kernel) rfl (by constructor <;> (dsimp only; omega)) ⟨Nat.le_of_ble_eq_true rfl, Nat.le_of_ble_eq_true rfl⟩ rfl rfl rfl rfl (Nat.le_of_ble_eq_true rfl) dX3_readTest_83 (fun v_ w1_ hp => ?_)
              obtain ⟨rfl, rfl⟩ := hp
              show Z X (0) (0) (rdw E r (rt 0) (.ref (rp 0)) (mrd S (nI p3)) ++ tpw E rt ST ++ plw E rp (mpv SP (nI G3.length) o3 l3 r3)) [(0, .ref (r 0)), (1, .int (nI op)), (2, .int (nI (sx p))), (3, .int v3)] 86 [.int (bI false)]
              rw [show (bI false) = 0 from rfl]
              refine z_if_eq (pc := 86) (tgt := 93) F dX3_readTest_86 (by decide) (fun _ => ?_) (fun h => absurd h (by decide))
              refine z_iconst (pc := 93) (v := (-1)) F dX3_readTest_93 (by decide) ?_
              exact z_iret (pc := 94) F hR dX3_readTest_94 (Nat.le_of_ble_eq_true rfl) (Nat.le_of_ble_eq_true rfl) (by subst e5; exact ce_n rfl rfl hho3 (by omega) (Or.inl rfl))
        · have b3 : (p + 1) ≤ p3 ∧ ((p + 1) ≤ tp → p3 ≤ tp) := by have q_ := ps_b h0 _ _ _ _ _ (by decide) h3; exact ⟨q_.1, q_.2.1⟩
          refine z_callVW (pc := 71) (q0 := 0) (ci := 3) (rest := []) F (cC_y (ihB n' (by omega)) h3 (by omega) (by omega) (by omega) hho) 1 ww_Reader_67 (by decide +kernel) rfl (by constructor <;> (dsimp only; omega)) ⟨Nat.le_of_ble_eq_true rfl, Nat.le_of_ble_eq_true rfl⟩ rfl rfl rfl rfl (Nat.le_of_ble_eq_true rfl) dX3_readTest_71 (fun v_ w1_ hp => ?_)
          obtain ⟨j3, G3, o3, l3, r3, rfl, rfl, hho3, hln3, hj3, hB3⟩ := hp
          show Z X (0) (0) (rdw E r (rt 0) (.ref (rp 0)) (mrd S (nI p3)) ++ tpw E rt ST ++ plw E rp (mpv SP (nI G3.length) o3 l3 r3)) [(0, .ref (r 0)), (1, .int (nI op)), (2, .int (nI (sx p)))] 74 [.int (nI j3)]
          refine z_istore_n (pc := 74) (lv' := [(0, .ref (r 0)), (1, .int (nI op)), (2, .int (nI (sx p))), (3, .int (nI j3))]) F dX3_readTest_74 rfl (by decide) [1, 2, 3, 0] rfl ?_
          refine z_iload_n (pc := 75) F dX3_readTest_75 rfl 3 rfl ?_
          refine z_iconst (pc := 76) (v := (-1)) F dX3_readTest_76 (by decide) ?_
          refine z_icmp_eq (pc := 77) (tgt := 93) F dX3_readTest_77 (by decide) (fun c77 => absurd c77 (nI_nm (by omega))) (fun c77 => ?_)
          refine z_aload_n (pc := 80) F dX3_readTest_80 rfl 0 rfl ?_
          refine z_bipush (pc := 81) (v := 125) F dX3_readTest_81 (by decide) ?_
          rcases Classical.em (sx p3 = 125) with kx | kx
          · have hlt3 : p3 < tp := sx_lt h0 (by omega)
            have e5 := clo_y e4 kx
            refine z_callVW (pc := 83) (q0 := 0) (ci := 3) (rest := []) F (c_X3_pass_y l E r rt rp S ST (mpv SP (nI G3.length) o3 l3 r3) tp sx p3 125 ht (by omega) (by decide) kx) 1 ww_Reader_32 (by decide +kernel) rfl (by constructor <;> (dsimp only; omega)) ⟨Nat.le_of_ble_eq_true rfl, Nat.le_of_ble_eq_true rfl⟩ rfl rfl rfl rfl (Nat.le_of_ble_eq_true rfl) dX3_readTest_83 (fun v_ w1_ hp => ?_)
            obtain ⟨rfl, rfl⟩ := hp
            show Z X (0) (0) (rdw E r (rt 0) (.ref (rp 0)) (mrd S (nI (p3 + 1))) ++ tpw E rt ST ++ plw E rp (mpv SP (nI G3.length) o3 l3 r3)) [(0, .ref (r 0)), (1, .int (nI op)), (2, .int (nI (sx p))), (3, .int (nI j3))] 86 [.int (bI true)]
            rw [show (bI true) = 1 from rfl]
            refine z_if_eq (pc := 86) (tgt := 93) F dX3_readTest_86 (by decide) (fun h => absurd h (by decide)) (fun _ => ?_)
            refine z_iload_n (pc := 89) F dX3_readTest_89 rfl 3 rfl ?_
            refine z_goto (pc := 90) (tgt := 94) F dX3_readTest_90 (by decide) ?_
            exact z_iret (pc := 94) F hR dX3_readTest_94 (Nat.le_of_ble_eq_true rfl) (Nat.le_of_ble_eq_true rfl) (by subst e5; exact ce_y rfl rfl rfl hho3 (by omega) rfl hj3 hB3)
          · have e5 := clo_n e4 kx
            refine z_callVW (pc := 83) (q0 := 0) (ci := 3) (rest := []) F (c_X3_pass_n l E r rt rp S ST (mpv SP (nI G3.length) o3 l3 r3) tp sx p3 125 ht (by omega) (by decide) kx) 1 ww_Reader_32 (by decide +kernel) rfl (by constructor <;> (dsimp only; omega)) ⟨Nat.le_of_ble_eq_true rfl, Nat.le_of_ble_eq_true rfl⟩ rfl rfl rfl rfl (Nat.le_of_ble_eq_true rfl) dX3_readTest_83 (fun v_ w1_ hp => ?_)
            obtain ⟨rfl, rfl⟩ := hp
            show Z X (0) (0) (rdw E r (rt 0) (.ref (rp 0)) (mrd S (nI p3)) ++ tpw E rt ST ++ plw E rp (mpv SP (nI G3.length) o3 l3 r3)) [(0, .ref (r 0)), (1, .int (nI op)), (2, .int (nI (sx p))), (3, .int (nI j3))] 86 [.int (bI false)]
            rw [show (bI false) = 0 from rfl]
            refine z_if_eq (pc := 86) (tgt := 93) F dX3_readTest_86 (by decide) (fun _ => ?_) (fun h => absurd h (by decide))
            refine z_iconst (pc := 93) (v := (-1)) F dX3_readTest_93 (by decide) ?_
            exact z_iret (pc := 94) F hR dX3_readTest_94 (Nat.le_of_ble_eq_true rfl) (Nat.le_of_ble_eq_true rfl) (by subst e5; exact ce_n rfl rfl hho3 (by omega) (Or.inl rfl))
      · have ho12 : op = 12 := nlt12 hop c26
        refine z_iconst (pc := 29) (v := (-1)) F dX3_readTest_29 (by decide) ?_
        exact z_iret (pc := 30) F hR dX3_readTest_30 (Nat.le_of_ble_eq_true rfl) (Nat.le_of_ble_eq_true rfl) (by have e4 := p4_pn hH kA kB ho12; subst e4; exact ce_n rfl rfl hho (Nat.le_refl _) (Or.inl rfl))
    · have kB : ¬ sx p = 123 := fun h => c14 (by rw [h]; rfl)
      refine z_aload_n (pc := 17) F dX3_readTest_17 rfl 0 rfl ?_
      refine z_iload_n (pc := 18) F dX3_readTest_18 rfl 1 rfl ?_
      refine z_callVW (pc := 19) (q0 := 0) (ci := 3) (rest := []) F (c_X3_readComparison_p l E r rt rp S ST SP tp sx n' p op G o1 l1 r1 R ht (ihX n' (by omega)) (p4_c hH kA kB) hp hN hop hho) 1 ww_Reader_102 (by decide +kernel) rfl (by constructor <;> (dsimp only; omega)) ⟨Nat.le_of_ble_eq_true rfl, Nat.le_of_ble_eq_true rfl⟩ rfl rfl rfl rfl (Nat.le_of_ble_eq_true rfl) dX3_readTest_19 (fun v_ w1_ hp => ?_)
      obtain ⟨v9, G9, o9, l9, r9, rfl, rfl, hho9, hf9⟩ := hp
      show Z X (0) (0) (rdw E r (rt 0) (.ref (rp 0)) (mrd S (nI R.2.1)) ++ tpw E rt ST ++ plw E rp (mpv SP (nI G9.length) o9 l9 r9)) [(0, .ref (r 0)), (1, .int (nI op)), (2, .int (nI (sx p)))] 22 [.int v9]
      exact z_iret (pc := 22) F hR dX3_readTest_22 (Nat.le_of_ble_eq_true rfl) (Nat.le_of_ble_eq_true rfl) ⟨v9, G9, o9, l9, r9, rfl, rfl, hho9, hf9⟩
set_option maxHeartbeats 4000000 in
set_option maxRecDepth 100000 in
theorem c_X3_readItem_p (l : Launch) (E : zE) (r : Nat → Nat) (rt : Nat → Nat) (rp : Nat → Nat) (S : zS) (ST : zS) (SP : zS) (tp : Nat) (sx : Nat → Nat) (n : Nat) (p : Nat) (op : Nat) (G : List zNd) (o1 : Nat → Int32) (l1 : Nat → Int32) (r1 : Nat → Int32) (R : zRs) (k : Nat) (c0 : List (Nat × Nat)) (R4 : zRs) (ht : tpC ST tp sx) (ihX : cC l E r rt rp S ST SP tp sx yX3_readX cX3_readX 5 (fun p op R => ps sx n 5 p op = some R) n) (hH : (if ¬ sx p = 91 ∨ op = 12 then some (false, p, []) else pthen (ps sx n 5 (p + 1) (op + 1)) (fun q c => clo sx 93 q (c ++ [(8, 0)]))) = some R4) (he1 : R4.1 = R.1) (he2 : R4.2.1 = R.2.1) (he3 : c0 ++ R4.2.2 = R.2.2) (hBP : BP G c0 k) (hk : k < 100) (hp : p ≤ tp) (hN : G.length ≤ p) (hop : op ≤ 12) (hho : hoN G o1 l1 r1) : Ct l yX3_readItem cX3_readItem 4 (some .int) (prd n) E (rdw E r (rt 0) (.ref (rp 0)) (mrd S (nI p)) ++ tpw E rt ST ++ plw E rp (mpv SP (nI G.length) o1 l1 r1)) [.ref (r 0), .int (nI k), .int (nI op)] (fun v_ w_ => ∃ v : Int32, ∃ G' : List zNd, ∃ o' : Nat → Int32, ∃ l' : Nat → Int32, ∃ r' : Nat → Int32, v_ = some (.int v) ∧ w_ = rdw E r (rt 0) (.ref (rp 0)) (mrd S (nI R.2.1)) ++ tpw E rt ST ++ plw E rp (mpv SP (nI G'.length) o' l' r') ∧ (hoN G' o' l' r') ∧ (cFin sx G p R v G')) := by
  refine Ct.of (by decide) (Nat.le_of_ble_eq_true rfl) (lv := [(0, .ref (r 0)), (1, .int (nI k)), (2, .int (nI op))]) rfl ?_
  intro X F hR
  have F : zF X l (prd n) E cX3_readItem 4 "LiveQueries$Reader" := F
  have htp := ht.2.1
  have hsx := ht.2.2.2.2
  have h0 := ht.2.2.2.1
  refine z_iload_n (pc := 0) F dX3_readItem_0 rfl 2 rfl ?_
  refine z_bipush (pc := 1) (v := 12) F dX3_readItem_1 (by decide) ?_
  refine z_icmp_ge (pc := 3) (tgt := 15) F dX3_readItem_3 (by decide) (fun c3 => ?_) (fun c3 => ?_)
  · have ho12 := gI (a := 12) (by decide) (by omega) c3
    refine z_iconst (pc := 15) (v := (-1)) F dX3_readItem_15 (by decide) ?_
    exact z_iret (pc := 16) F hR dX3_readItem_16 (Nat.le_of_ble_eq_true rfl) (Nat.le_of_ble_eq_true rfl) (by rw [if_pos (by omega)] at hH; cases hH; exact ce_n he1 he2 hho (Nat.le_refl _) (Or.inl rfl))
  · have ho12 := ngI (a := 12) (by decide) (by omega) c3
    refine z_aload_n (pc := 6) F dX3_readItem_6 rfl 0 rfl ?_
    refine z_bipush (pc := 7) (v := 91) F dX3_readItem_7 (by decide) ?_
    rcases Classical.em (sx p = 91) with kx | kx
    · have hlt : p < tp := sx_lt h0 (by omega)
      rw [if_neg (by omega)] at hH
      refine z_callVW (pc := 9) (q0 := 0) (ci := 3) (rest := []) F (c_X3_pass_y l E r rt rp S ST (mpv SP (nI G.length) o1 l1 r1) tp sx p 91 ht hp (by decide) kx) 1 ww_Reader_32 (by decide +kernel) rfl (by constructor <;> (dsimp only; omega)) ⟨Nat.le_of_ble_eq_true rfl, Nat.le_of_ble_eq_true rfl⟩ rfl rfl rfl rfl (Nat.le_of_ble_eq_true rfl) dX3_readItem_9 (fun v_ w1_ hp => ?_)
      obtain ⟨rfl, rfl⟩ := hp
      show Z X (0) (0) (rdw E r (rt 0) (.ref (rp 0)) (mrd S (nI (p + 1))) ++ tpw E rt ST ++ plw E rp (mpv SP (nI G.length) o1 l1 r1)) [(0, .ref (r 0)), (1, .int (nI k)), (2, .int (nI op))] 12 [.int (bI true)]
      rw [show (bI true) = 1 from rfl]
      refine z_if_ne (pc := 12) (tgt := 17) F dX3_readItem_12 (by decide) (fun _ => ?_) (fun h => absurd h (by decide))
      refine z_aload_n (pc := 17) F dX3_readItem_17 rfl 0 rfl ?_
      refine z_iload_n (pc := 18) F dX3_readItem_18 rfl 2 rfl ?_
      refine z_iconst (pc := 19) (v := 1) F dX3_readItem_19 (by decide) ?_
      refine z_iadd (pc := 20) F dX3_readItem_20 ?_
      rw [show ((nI op) + 1) = nI (op + 1) from (nI_1 _)]
      obtain ⟨p3, c3, hh3⟩ := pthen_inv hH; rcases hh3 with ⟨h3, e4⟩ | ⟨h3, e4⟩
      · have b3 : (p + 1) ≤ p3 ∧ ((p + 1) ≤ tp → p3 ≤ tp) := by have q_ := ps_b h0 _ _ _ _ _ (by decide) h3; exact ⟨q_.1, q_.2.1⟩
        refine z_callVW (pc := 21) (q0 := 0) (ci := 3) (rest := []) F (cC_n (ihX) h3 (by omega) (by omega) (by omega) hho) 1 ww_Reader_74 (by decide +kernel) rfl (by constructor <;> (dsimp only; omega)) ⟨Nat.le_of_ble_eq_true rfl, Nat.le_of_ble_eq_true rfl⟩ rfl rfl rfl rfl (Nat.le_of_ble_eq_true rfl) dX3_readItem_21 (fun v_ w1_ hp => ?_)
        obtain ⟨v3, G3, o3, l3, r3, rfl, rfl, hho3, hln3, hv3⟩ := hp
        show Z X (0) (0) (rdw E r (rt 0) (.ref (rp 0)) (mrd S (nI p3)) ++ tpw E rt ST ++ plw E rp (mpv SP (nI G3.length) o3 l3 r3)) [(0, .ref (r 0)), (1, .int (nI k)), (2, .int (nI op))] 24 [.int v3]
        refine z_istore_n (pc := 24) (lv' := [(0, .ref (r 0)), (1, .int (nI k)), (2, .int (nI op)), (3, .int v3)]) F dX3_readItem_24 rfl (by decide) [1, 2, 3, 0] rfl ?_
        rcases hv3 with hv3 | hv3
        · subst hv3
          refine z_iload_n (pc := 25) F dX3_readItem_25 rfl 3 rfl ?_
          refine z_iconst (pc := 26) (v := (-1)) F dX3_readItem_26 (by decide) ?_
          refine z_icmp_eq (pc := 27) (tgt := 53) F dX3_readItem_27 (by decide) (fun _ => ?_) (fun h => absurd h (by decide))
          refine z_iconst (pc := 53) (v := (-1)) F dX3_readItem_53 (by decide) ?_
          exact z_iret (pc := 54) F hR dX3_readItem_54 (Nat.le_of_ble_eq_true rfl) (Nat.le_of_ble_eq_true rfl) (by subst e4; exact ce_n he1 he2 hho3 (by omega) (Or.inl rfl))
        · skip
          refine z_iload_n (pc := 25) F dX3_readItem_25 rfl 3 rfl ?_
          refine z_iconst (pc := 26) (v := (-1)) F dX3_readItem_26 (by decide) ?_
          refine z_icmp_eq (pc := 27) (tgt := 53) F dX3_readItem_27 (by decide) (fun c27 => absurd c27 hv3.1) (fun c27 => ?_)
          refine z_aload_n (pc := 30) F dX3_readItem_30 rfl 0 rfl ?_
          refine z_bipush (pc := 31) (v := 93) F dX3_readItem_31 (by decide) ?_
          have ky : ¬ sx p3 = 93 := isD_ne hv3.2 (by decide)
          · have e5 := e4
            refine z_callVW (pc := 33) (q0 := 0) (ci := 3) (rest := []) F (c_X3_pass_n l E r rt rp S ST (mpv SP (nI G3.length) o3 l3 r3) tp sx p3 93 ht (by omega) (by decide) ky) 1 ww_Reader_32 (by decide +kernel) rfl (by constructor <;> (dsimp only; omega)) ⟨Nat.le_of_ble_eq_true rfl, Nat.le_of_ble_eq_true rfl⟩ rfl rfl rfl rfl (Nat.le_of_ble_eq_true rfl) dX3_readItem_33 (fun v_ w1_ hp => ?_)
            obtain ⟨rfl, rfl⟩ := hp
            show Z X (0) (0) (rdw E r (rt 0) (.ref (rp 0)) (mrd S (nI p3)) ++ tpw E rt ST ++ plw E rp (mpv SP (nI G3.length) o3 l3 r3)) [(0, .ref (r 0)), (1, .int (nI k)), (2, .int (nI op)), (3, .int v3)] 36 [.int (bI false)]
            rw [show (bI false) = 0 from rfl]
            refine z_if_eq (pc := 36) (tgt := 53) F dX3_readItem_36 (by decide) (fun _ => ?_) (fun h => absurd h (by decide))
            refine z_iconst (pc := 53) (v := (-1)) F dX3_readItem_53 (by decide) ?_
            exact z_iret (pc := 54) F hR dX3_readItem_54 (Nat.le_of_ble_eq_true rfl) (Nat.le_of_ble_eq_true rfl) (by subst e5; exact ce_n he1 he2 hho3 (by omega) (Or.inl rfl))
      · have b3 : (p + 1) ≤ p3 ∧ ((p + 1) ≤ tp → p3 ≤ tp) := by have q_ := ps_b h0 _ _ _ _ _ (by decide) h3; exact ⟨q_.1, q_.2.1⟩
        refine z_callVW (pc := 21) (q0 := 0) (ci := 3) (rest := []) F (cC_y (ihX) h3 (by omega) (by omega) (by omega) hho) 1 ww_Reader_74 (by decide +kernel) rfl (by constructor <;> (dsimp only; omega)) ⟨Nat.le_of_ble_eq_true rfl, Nat.le_of_ble_eq_true rfl⟩ rfl rfl rfl rfl (Nat.le_of_ble_eq_true rfl) dX3_readItem_21 (fun v_ w1_ hp => ?_)
        obtain ⟨j3, G3, o3, l3, r3, rfl, rfl, hho3, hln3, hj3, hB3⟩ := hp
        show Z X (0) (0) (rdw E r (rt 0) (.ref (rp 0)) (mrd S (nI p3)) ++ tpw E rt ST ++ plw E rp (mpv SP (nI G3.length) o3 l3 r3)) [(0, .ref (r 0)), (1, .int (nI k)), (2, .int (nI op))] 24 [.int (nI j3)]
        refine z_istore_n (pc := 24) (lv' := [(0, .ref (r 0)), (1, .int (nI k)), (2, .int (nI op)), (3, .int (nI j3))]) F dX3_readItem_24 rfl (by decide) [1, 2, 3, 0] rfl ?_
        refine z_iload_n (pc := 25) F dX3_readItem_25 rfl 3 rfl ?_
        refine z_iconst (pc := 26) (v := (-1)) F dX3_readItem_26 (by decide) ?_
        refine z_icmp_eq (pc := 27) (tgt := 53) F dX3_readItem_27 (by decide) (fun c27 => absurd c27 (nI_nm (by omega))) (fun c27 => ?_)
        refine z_aload_n (pc := 30) F dX3_readItem_30 rfl 0 rfl ?_
        refine z_bipush (pc := 31) (v := 93) F dX3_readItem_31 (by decide) ?_
        rcases Classical.em (sx p3 = 93) with ky | ky
        · have hlt3 : p3 < tp := sx_lt h0 (by omega)
          have e5 := clo_y e4 ky
          refine z_callVW (pc := 33) (q0 := 0) (ci := 3) (rest := []) F (c_X3_pass_y l E r rt rp S ST (mpv SP (nI G3.length) o3 l3 r3) tp sx p3 93 ht (by omega) (by decide) ky) 1 ww_Reader_32 (by decide +kernel) rfl (by constructor <;> (dsimp only; omega)) ⟨Nat.le_of_ble_eq_true rfl, Nat.le_of_ble_eq_true rfl⟩ rfl rfl rfl rfl (Nat.le_of_ble_eq_true rfl) dX3_readItem_33 (fun v_ w1_ hp => ?_)
          obtain ⟨rfl, rfl⟩ := hp
          show Z X (0) (0) (rdw E r (rt 0) (.ref (rp 0)) (mrd S (nI (p3 + 1))) ++ tpw E rt ST ++ plw E rp (mpv SP (nI G3.length) o3 l3 r3)) [(0, .ref (r 0)), (1, .int (nI k)), (2, .int (nI op)), (3, .int (nI j3))] 36 [.int (bI true)]
          rw [show (bI true) = 1 from rfl]
          refine z_if_eq (pc := 36) (tgt := 53) F dX3_readItem_36 (by decide) (fun h => absurd h (by decide)) (fun _ => ?_)
          refine z_aload_n (pc := 39) F dX3_readItem_39 rfl 0 rfl ?_
          refine z_get (pc := 40) (v := .ref (rp 0)) F iX3 0 rfl rfl 1 (by decide) tw_148 rfl dX3_readItem_40 ?_
          refine z_bipush (pc := 43) (v := 116) F dX3_readItem_43 (by decide) ?_
          refine z_iload_n (pc := 45) F dX3_readItem_45 rfl 1 rfl ?_
          refine z_iload_n (pc := 46) F dX3_readItem_46 rfl 3 rfl ?_
          refine z_callV (pc := 47) (q0 := 3) (ci := 2) (wr := rdw E r (rt 0) (.ref (rp 0)) (mrd S (nI (p3 + 1))) ++ tpw E rt ST) (rest := []) F (c_X2_addNode l E rp (mpv SP (nI G3.length) o3 l3 r3) (G3.length) 116 (nI k) (nI j3) (by omega) rfl (by decide)) 3 [3, 4, 5, 6] [0, 1, 2] rfl rfl ⟨by decide, by decide, by decide⟩ ww_Reader_114 (by decide +kernel) rfl (by constructor <;> (dsimp only; omega)) ⟨Nat.le_of_ble_eq_true rfl, Nat.le_of_ble_eq_true rfl⟩ rfl rfl rfl rfl (Nat.le_of_ble_eq_true rfl) dX3_readItem_47 (fun v_ w1_ hp => ?_)
          obtain ⟨rfl, rfl⟩ := hp
          show Z X (0) (0) (rdw E r (rt 0) (.ref (rp 0)) (mrd S (nI (p3 + 1))) ++ tpw E rt ST ++ plw E rp (mpv SP (nI ((G3.length) + 1)) (upd o3 (G3.length) 116) (upd l3 (G3.length) (nI k)) (upd r3 (G3.length) (nI j3)))) [(0, .ref (r 0)), (1, .int (nI k)), (2, .int (nI op)), (3, .int (nI j3))] 50 [.int (nI (G3.length))]
          refine z_goto (pc := 50) (tgt := 54) F dX3_readItem_50 (by decide) ?_
          exact z_iret (pc := 54) F hR dX3_readItem_54 (Nat.le_of_ble_eq_true rfl) (Nat.le_of_ble_eq_true rfl) (by subst e5; rw [show G3.length + 1 = (G3 ++ [(116, nI k, nI j3)]).length from (len_add _ _).symm]; exact ce_y he1 he2 he3 (hoN_add hho3 (c := 116) rfl) (by rw [len_add]; omega) rfl (by rw [len_add]; omega) (BL_item hBP hB3))
        · have e5 := clo_n e4 ky
          refine z_callVW (pc := 33) (q0 := 0) (ci := 3) (rest := []) F (c_X3_pass_n l E r rt rp S ST (mpv SP (nI G3.length) o3 l3 r3) tp sx p3 93 ht (by omega) (by decide) ky) 1 ww_Reader_32 (by decide +kernel) rfl (by constructor <;> (dsimp only; omega)) ⟨Nat.le_of_ble_eq_true rfl, Nat.le_of_ble_eq_true rfl⟩ rfl rfl rfl rfl (Nat.le_of_ble_eq_true rfl) dX3_readItem_33 (fun v_ w1_ hp => ?_)
          obtain ⟨rfl, rfl⟩ := hp
          show Z X (0) (0) (rdw E r (rt 0) (.ref (rp 0)) (mrd S (nI p3)) ++ tpw E rt ST ++ plw E rp (mpv SP (nI G3.length) o3 l3 r3)) [(0, .ref (r 0)), (1, .int (nI k)), (2, .int (nI op)), (3, .int (nI j3))] 36 [.int (bI false)]
          rw [show (bI false) = 0 from rfl]
          refine z_if_eq (pc := 36) (tgt := 53) F dX3_readItem_36 (by decide) (fun _ => ?_) (fun h => absurd h (by decide))
          refine z_iconst (pc := 53) (v := (-1)) F dX3_readItem_53 (by decide) ?_
          exact z_iret (pc := 54) F hR dX3_readItem_54 (Nat.le_of_ble_eq_true rfl) (Nat.le_of_ble_eq_true rfl) (by subst e5; exact ce_n he1 he2 hho3 (by omega) (Or.inl rfl))
    · skip
      refine z_callVW (pc := 9) (q0 := 0) (ci := 3) (rest := []) F (c_X3_pass_n l E r rt rp S ST (mpv SP (nI G.length) o1 l1 r1) tp sx p 91 ht hp (by decide) kx) 1 ww_Reader_32 (by decide +kernel) rfl (by constructor <;> (dsimp only; omega)) ⟨Nat.le_of_ble_eq_true rfl, Nat.le_of_ble_eq_true rfl⟩ rfl rfl rfl rfl (Nat.le_of_ble_eq_true rfl) dX3_readItem_9 (fun v_ w1_ hp => ?_)
      obtain ⟨rfl, rfl⟩ := hp
      show Z X (0) (0) (rdw E r (rt 0) (.ref (rp 0)) (mrd S (nI p)) ++ tpw E rt ST ++ plw E rp (mpv SP (nI G.length) o1 l1 r1)) [(0, .ref (r 0)), (1, .int (nI k)), (2, .int (nI op))] 12 [.int (bI false)]
      rw [show (bI false) = 0 from rfl]
      refine z_if_ne (pc := 12) (tgt := 17) F dX3_readItem_12 (by decide) (fun h => absurd h (by decide)) (fun _ => ?_)
      refine z_iconst (pc := 15) (v := (-1)) F dX3_readItem_15 (by decide) ?_
      exact z_iret (pc := 16) F hR dX3_readItem_16 (Nat.le_of_ble_eq_true rfl) (Nat.le_of_ble_eq_true rfl) (by rw [if_pos (by omega)] at hH; cases hH; exact ce_n he1 he2 hho (Nat.le_refl _) (Or.inl rfl))
set_option maxHeartbeats 4000000 in
set_option maxRecDepth 100000 in
theorem c_X3_readPath_p (l : Launch) (E : zE) (r : Nat → Nat) (rt : Nat → Nat) (rp : Nat → Nat) (S : zS) (ST : zS) (SP : zS) (tp : Nat) (sx : Nat → Nat) (n : Nat) (p : Nat) (op : Nat) (G : List zNd) (o1 : Nat → Int32) (l1 : Nat → Int32) (r1 : Nat → Int32) (R : zRs) (ht : tpC ST tp sx) (ihX : ∀ m : Nat, m < n → cC l E r rt rp S ST SP tp sx yX3_readX cX3_readX 5 (fun p op R => ps sx m 5 p op = some R) m) (hH : pcat [(1, 0)] (ps sx n 10 p op) = some R) (hp : p ≤ tp) (hN : G.length ≤ p) (hop : op ≤ 12) (hho : hoN G o1 l1 r1) : Ct l yX3_readPath cX3_readPath 4 (some .int) (prc n) E (rdw E r (rt 0) (.ref (rp 0)) (mrd S (nI p)) ++ tpw E rt ST ++ plw E rp (mpv SP (nI G.length) o1 l1 r1)) [.ref (r 0), .int (nI op)] (fun v_ w_ => ∃ v : Int32, ∃ G' : List zNd, ∃ o' : Nat → Int32, ∃ l' : Nat → Int32, ∃ r' : Nat → Int32, v_ = some (.int v) ∧ w_ = rdw E r (rt 0) (.ref (rp 0)) (mrd S (nI R.2.1)) ++ tpw E rt ST ++ plw E rp (mpv SP (nI G'.length) o' l' r') ∧ (hoN G' o' l' r') ∧ (cFin sx G p R v G')) := by
  refine Ct.of (by decide) (Nat.le_of_ble_eq_true rfl) (lv := [(0, .ref (r 0)), (1, .int (nI op))]) rfl ?_
  intro X F hR
  have F : zF X l (prc n) E cX3_readPath 4 "LiveQueries$Reader" := F
  have htp := ht.2.1
  have hsx := ht.2.2.2.2
  have h0 := ht.2.2.2.1
  obtain ⟨R0, hR0, rfl⟩ := pcat_inv hH
  refine z_iconst (pc := 0) (v := 0) F dX3_readPath_0 (by decide) ?_
  refine z_istore_n (pc := 1) (lv' := [(0, .ref (r 0)), (1, .int (nI op)), (2, .int 0)]) F dX3_readPath_1 rfl (by decide) [1, 2, 0] rfl ?_
  refine z_iconst (pc := 2) (v := 0) F dX3_readPath_2 (by decide) ?_
  refine z_istore_n (pc := 3) (lv' := [(0, .ref (r 0)), (1, .int (nI op)), (2, .int 0), (3, .int 0)]) F dX3_readPath_3 rfl (by decide) [1, 2, 3, 0] rfl ?_
  have L4 : ∀ (N : Nat) (i : Nat) (k : Nat) (p2 : Nat) (c0 : List (Nat × Nat)) (R4 : zRs), k < N → (k ≤ n) → (ps sx k 10 p2 op = some R4) → (R4.1 = R0.1) → (R4.2.1 = R0.2.1) → (c0 ++ R4.2.2 = [(1, 0)] ++ R0.2.2) → (p2 ≤ tp) → (p + 2 * i = p2) → (BP G c0 i) → Z X (0) (0) (rdw E r (rt 0) (.ref (rp 0)) (mrd S (nI p2)) ++ tpw E rt ST ++ plw E rp (mpv SP (nI G.length) o1 l1 r1)) [(0, .ref (r 0)), (1, .int (nI op)), (2, .int (nI i)), (3, .int (nI i))] 4 [] := by
    intro N
    induction N with
    | zero => intro i k p2 c0 R4 hN; exact absurd hN (Nat.not_lt_zero _)
    | succ N ih4 =>
      intro i k p2 c0 R4 hN hk hl he1 he2 he3 hp2 hi hBP
      obtain ⟨k', rfl⟩ : ∃ k', k = k' + 1 := by cases k with | zero => cases hl | succ k' => exact ⟨k', rfl⟩
      refine z_iload_n (pc := 4) F dX3_readPath_4 rfl 3 rfl ?_
      refine z_bipush (pc := 5) (v := 80) F dX3_readPath_5 (by decide) ?_
      refine z_icmp_ge (pc := 7) (tgt := 39) F dX3_readPath_7 (by decide) (fun c7 => absurd c7 (fun h => absurd (gI (a := 80) (by decide) (by omega) h) (by omega))) (fun c7 => ?_)
      refine z_aload_n (pc := 10) F dX3_readPath_10 rfl 0 rfl ?_
      refine z_bipush (pc := 11) (v := 114) F dX3_readPath_11 (by decide) ?_
      rcases Classical.em (sx p2 = 114) with kr | kr
      · have hlt2 : p2 < tp := sx_lt h0 (by omega)
        refine z_callVW (pc := 13) (q0 := 0) (ci := 3) (rest := []) F (c_X3_pass_y l E r rt rp S ST (mpv SP (nI G.length) o1 l1 r1) tp sx p2 114 ht hp2 (by decide) kr) 1 ww_Reader_32 (by decide +kernel) rfl (by constructor <;> (dsimp only; omega)) ⟨Nat.le_of_ble_eq_true rfl, Nat.le_of_ble_eq_true rfl⟩ rfl rfl rfl rfl (Nat.le_of_ble_eq_true rfl) dX3_readPath_13 (fun v_ w1_ hp => ?_)
        obtain ⟨rfl, rfl⟩ := hp
        show Z X (0) (0) (rdw E r (rt 0) (.ref (rp 0)) (mrd S (nI (p2 + 1))) ++ tpw E rt ST ++ plw E rp (mpv SP (nI G.length) o1 l1 r1)) [(0, .ref (r 0)), (1, .int (nI op)), (2, .int (nI i)), (3, .int (nI i))] 16 [.int (bI true)]
        rw [show (bI true) = 1 from rfl]
        refine z_if_eq (pc := 16) (tgt := 39) F dX3_readPath_16 (by decide) (fun h => absurd h (by decide)) (fun _ => ?_)
        refine z_aload_n (pc := 19) F dX3_readPath_19 rfl 0 rfl ?_
        refine z_bipush (pc := 20) (v := 46) F dX3_readPath_20 (by decide) ?_
        rcases Classical.em (sx (p2 + 1) = 46) with kd | kd
        · have hlt3 : p2 + 1 < tp := sx_lt h0 (by omega)
          refine z_callVW (pc := 22) (q0 := 0) (ci := 3) (rest := []) F (c_X3_pass_y l E r rt rp S ST (mpv SP (nI G.length) o1 l1 r1) tp sx (p2 + 1) 46 ht (by omega) (by decide) kd) 1 ww_Reader_32 (by decide +kernel) rfl (by constructor <;> (dsimp only; omega)) ⟨Nat.le_of_ble_eq_true rfl, Nat.le_of_ble_eq_true rfl⟩ rfl rfl rfl rfl (Nat.le_of_ble_eq_true rfl) dX3_readPath_22 (fun v_ w1_ hp => ?_)
          obtain ⟨rfl, rfl⟩ := hp
          show Z X (0) (0) (rdw E r (rt 0) (.ref (rp 0)) (mrd S (nI ((p2 + 1) + 1))) ++ tpw E rt ST ++ plw E rp (mpv SP (nI G.length) o1 l1 r1)) [(0, .ref (r 0)), (1, .int (nI op)), (2, .int (nI i)), (3, .int (nI i))] 25 [.int (bI true)]
          rw [show (bI true) = 1 from rfl]
          refine z_if_ne (pc := 25) (tgt := 30) F dX3_readPath_25 (by decide) (fun _ => ?_) (fun h => absurd h (by decide))
          refine z_iinc (pc := 30) (v := nI (i + 1)) (lv' := [(0, .ref (r 0)), (1, .int (nI op)), (2, .int (nI (i + 1))), (3, .int (nI i))]) F (j := 2) dX3_readPath_30 rfl (nI_1 _) (by decide) [1, 2, 0, 3] rfl ?_
          refine z_iinc (pc := 33) (v := nI (i + 1)) (lv' := [(0, .ref (r 0)), (1, .int (nI op)), (2, .int (nI (i + 1))), (3, .int (nI (i + 1)))]) F (j := 3) dX3_readPath_33 rfl (nI_1 _) (by decide) [1, 2, 3, 0] rfl ?_
          refine z_goto (pc := 36) (tgt := 4) F dX3_readPath_36 (by decide) ?_
          obtain ⟨R5, h5, e4⟩ := p10_ry hl kr kd; subst e4; exact ih4 (i + 1) k' (p2 + 2) (c0 ++ [(2, 0)]) R5 (by omega) (by omega) h5 he1 he2 (by rw [List.append_assoc]; exact he3) (by omega) (by omega) (BP_s hBP)
        · skip
          refine z_callVW (pc := 22) (q0 := 0) (ci := 3) (rest := []) F (c_X3_pass_n l E r rt rp S ST (mpv SP (nI G.length) o1 l1 r1) tp sx (p2 + 1) 46 ht (by omega) (by decide) kd) 1 ww_Reader_32 (by decide +kernel) rfl (by constructor <;> (dsimp only; omega)) ⟨Nat.le_of_ble_eq_true rfl, Nat.le_of_ble_eq_true rfl⟩ rfl rfl rfl rfl (Nat.le_of_ble_eq_true rfl) dX3_readPath_22 (fun v_ w1_ hp => ?_)
          obtain ⟨rfl, rfl⟩ := hp
          show Z X (0) (0) (rdw E r (rt 0) (.ref (rp 0)) (mrd S (nI (p2 + 1))) ++ tpw E rt ST ++ plw E rp (mpv SP (nI G.length) o1 l1 r1)) [(0, .ref (r 0)), (1, .int (nI op)), (2, .int (nI i)), (3, .int (nI i))] 25 [.int (bI false)]
          rw [show (bI false) = 0 from rfl]
          refine z_if_ne (pc := 25) (tgt := 30) F dX3_readPath_25 (by decide) (fun h => absurd h (by decide)) (fun _ => ?_)
          refine z_iconst (pc := 28) (v := (-1)) F dX3_readPath_28 (by decide) ?_
          exact z_iret (pc := 29) F hR dX3_readPath_29 (Nat.le_of_ble_eq_true rfl) (Nat.le_of_ble_eq_true rfl) (by have e4 := p10_rn hl kr kd; subst e4; exact ce_n he1 he2 hho (by omega) (Or.inl rfl))
      · skip
        refine z_callVW (pc := 13) (q0 := 0) (ci := 3) (rest := []) F (c_X3_pass_n l E r rt rp S ST (mpv SP (nI G.length) o1 l1 r1) tp sx p2 114 ht hp2 (by decide) kr) 1 ww_Reader_32 (by decide +kernel) rfl (by constructor <;> (dsimp only; omega)) ⟨Nat.le_of_ble_eq_true rfl, Nat.le_of_ble_eq_true rfl⟩ rfl rfl rfl rfl (Nat.le_of_ble_eq_true rfl) dX3_readPath_13 (fun v_ w1_ hp => ?_)
        obtain ⟨rfl, rfl⟩ := hp
        show Z X (0) (0) (rdw E r (rt 0) (.ref (rp 0)) (mrd S (nI p2)) ++ tpw E rt ST ++ plw E rp (mpv SP (nI G.length) o1 l1 r1)) [(0, .ref (r 0)), (1, .int (nI op)), (2, .int (nI i)), (3, .int (nI i))] 16 [.int (bI false)]
        rw [show (bI false) = 0 from rfl]
        refine z_if_eq (pc := 16) (tgt := 39) F dX3_readPath_16 (by decide) (fun _ => ?_) (fun h => absurd h (by decide))
        refine z_aload_n (pc := 39) F dX3_readPath_39 rfl 0 rfl ?_
        refine z_callVW (pc := 40) (q0 := 0) (ci := 3) (rest := []) F (c_X3_peek l E r rt rp S ST (mpv SP (nI G.length) o1 l1 r1) tp sx p2 ht hp2) 0 ww_Reader_51 (by decide +kernel) rfl (by constructor <;> (dsimp only; omega)) ⟨Nat.le_of_ble_eq_true rfl, Nat.le_of_ble_eq_true rfl⟩ rfl rfl rfl rfl (Nat.le_of_ble_eq_true rfl) dX3_readPath_40 (fun v_ w1_ hp => ?_)
        obtain ⟨rfl, rfl⟩ := hp
        show Z X (0) (0) (rdw E r (rt 0) (.ref (rp 0)) (mrd S (nI p2)) ++ tpw E rt ST ++ plw E rp (mpv SP (nI G.length) o1 l1 r1)) [(0, .ref (r 0)), (1, .int (nI op)), (2, .int (nI i)), (3, .int (nI i))] 43 [.int (nI (sx p2))]
        refine z_istore_n (pc := 43) (lv' := [(0, .ref (r 0)), (1, .int (nI op)), (2, .int (nI i)), (3, .int (nI (sx p2)))]) F dX3_readPath_43 rfl (by decide) [1, 2, 3, 0] rfl ?_
        refine z_iload_n (pc := 44) F dX3_readPath_44 rfl 3 rfl ?_
        refine z_bipush (pc := 45) (v := 116) F dX3_readPath_45 (by decide) ?_
        refine z_icmp_ne (pc := 47) (tgt := 67) F dX3_readPath_47 (by decide) (fun c47 => ?_) (fun c47 => ?_)
        · have k47 : ¬ sx p2 = 116 := fun h => c47 (by rw [h]; rfl)
          refine z_iload_n (pc := 67) F dX3_readPath_67 rfl 3 rfl ?_
          refine z_bipush (pc := 68) (v := 97) F dX3_readPath_68 (by decide) ?_
          refine z_icmp_eq (pc := 70) (tgt := 99) F dX3_readPath_70 (by decide) (fun c70 => ?_) (fun c70 => ?_)
          · have k70 : sx p2 = 97 := nIe (b := 97) (by have := hsx (p2); omega) (by decide) c70
            have kx : sx p2 = 97 ∨ sx p2 = 98 ∨ sx p2 = 99 ∨ sx p2 = 110 ∨ sx p2 = 105 := by omega
            have hlt2 : p2 < tp := sx_lt h0 (by omega)
            refine z_aload_n (pc := 99) F dX3_readPath_99 rfl 0 rfl ?_
            refine z_dup (pc := 100) F dX3_readPath_100 rfl ?_
            refine z_get (pc := 101) (v := .int (nI p2)) F iX3 0 rfl rfl 2 (by decide) tw_149 rfl dX3_readPath_101 ?_
            refine z_iconst (pc := 104) (v := 1) F dX3_readPath_104 (by decide) ?_
            refine z_iadd (pc := 105) F dX3_readPath_105 ?_
            rw [show ((nI p2) + 1) = nI (p2 + 1) from (nI_1 _)]
            refine z_put (pc := 106) (ws' := rdw E r (rt 0) (.ref (rp 0)) (mrd S (nI (p2 + 1))) ++ tpw E rt ST ++ plw E rp (mpv SP (nI G.length) o1 l1 r1)) F iX3 tyX3 tyX3_ok nmX3 0 rfl rfl 2 (by decide) tw_149 rfl rfl rfl (Nat.le_of_ble_eq_true rfl) dX3_readPath_106 rfl ?_
            refine z_aload_n (pc := 109) F dX3_readPath_109 rfl 0 rfl ?_
            refine z_get (pc := 110) (v := .ref (rp 0)) F iX3 0 rfl rfl 1 (by decide) tw_148 rfl dX3_readPath_110 ?_
            refine z_iload_n (pc := 113) F dX3_readPath_113 rfl 3 rfl ?_
            refine z_iload_n (pc := 114) F dX3_readPath_114 rfl 2 rfl ?_
            refine z_iconst (pc := 115) (v := (-1)) F dX3_readPath_115 (by decide) ?_
            refine z_callV (pc := 116) (q0 := 3) (ci := 2) (wr := rdw E r (rt 0) (.ref (rp 0)) (mrd S (nI (p2 + 1))) ++ tpw E rt ST) (rest := []) F (c_X2_addNode l E rp (mpv SP (nI G.length) o1 l1 r1) (G.length) (nI (sx p2)) (nI i) (-1) (by omega) rfl (nar_ch (hsx p2))) 3 [3, 4, 5, 6] [0, 1, 2] rfl rfl ⟨by decide, by decide, by decide⟩ ww_Reader_114 (by decide +kernel) rfl (by constructor <;> (dsimp only; omega)) ⟨Nat.le_of_ble_eq_true rfl, Nat.le_of_ble_eq_true rfl⟩ rfl rfl rfl rfl (Nat.le_of_ble_eq_true rfl) dX3_readPath_116 (fun v_ w1_ hp => ?_)
            obtain ⟨rfl, rfl⟩ := hp
            show Z X (0) (0) (rdw E r (rt 0) (.ref (rp 0)) (mrd S (nI (p2 + 1))) ++ tpw E rt ST ++ plw E rp (mpv SP (nI ((G.length) + 1)) (upd o1 (G.length) (nI (sx p2))) (upd l1 (G.length) (nI i)) (upd r1 (G.length) (-1)))) [(0, .ref (r 0)), (1, .int (nI op)), (2, .int (nI i)), (3, .int (nI (sx p2)))] 119 [.int (nI (G.length))]
            exact z_iret (pc := 119) F hR dX3_readPath_119 (Nat.le_of_ble_eq_true rfl) (Nat.le_of_ble_eq_true rfl) (by have e4 := p10_f hl kr k47 rfl (fldO_c kx).2; subst e4; rw [show G.length + 1 = (G ++ [(sx p2, nI i, -1)]).length from (len_add _ _).symm]; exact ce_y he1 he2 he3 (hoN_add hho (c := sx p2) rfl) (by rw [len_add]; omega) rfl (by rw [len_add]; omega) (by have h_ := BL_fld hBP (fldO_r (fldO_c kx).2); rw [(fldO_c kx).1] at h_; exact h_))
          · have k70 : ¬ sx p2 = 97 := fun h => c70 (by rw [h]; rfl)
            refine z_iload_n (pc := 73) F dX3_readPath_73 rfl 3 rfl ?_
            refine z_bipush (pc := 74) (v := 98) F dX3_readPath_74 (by decide) ?_
            refine z_icmp_eq (pc := 76) (tgt := 99) F dX3_readPath_76 (by decide) (fun c76 => ?_) (fun c76 => ?_)
            · have k76 : sx p2 = 98 := nIe (b := 98) (by have := hsx (p2); omega) (by decide) c76
              have kx : sx p2 = 97 ∨ sx p2 = 98 ∨ sx p2 = 99 ∨ sx p2 = 110 ∨ sx p2 = 105 := by omega
              have hlt2 : p2 < tp := sx_lt h0 (by omega)
              refine z_aload_n (pc := 99) F dX3_readPath_99 rfl 0 rfl ?_
              refine z_dup (pc := 100) F dX3_readPath_100 rfl ?_
              refine z_get (pc := 101) (v := .int (nI p2)) F iX3 0 rfl rfl 2 (by decide) tw_149 rfl dX3_readPath_101 ?_
              refine z_iconst (pc := 104) (v := 1) F dX3_readPath_104 (by decide) ?_
              refine z_iadd (pc := 105) F dX3_readPath_105 ?_
              rw [show ((nI p2) + 1) = nI (p2 + 1) from (nI_1 _)]
              refine z_put (pc := 106) (ws' := rdw E r (rt 0) (.ref (rp 0)) (mrd S (nI (p2 + 1))) ++ tpw E rt ST ++ plw E rp (mpv SP (nI G.length) o1 l1 r1)) F iX3 tyX3 tyX3_ok nmX3 0 rfl rfl 2 (by decide) tw_149 rfl rfl rfl (Nat.le_of_ble_eq_true rfl) dX3_readPath_106 rfl ?_
              refine z_aload_n (pc := 109) F dX3_readPath_109 rfl 0 rfl ?_
              refine z_get (pc := 110) (v := .ref (rp 0)) F iX3 0 rfl rfl 1 (by decide) tw_148 rfl dX3_readPath_110 ?_
              refine z_iload_n (pc := 113) F dX3_readPath_113 rfl 3 rfl ?_
              refine z_iload_n (pc := 114) F dX3_readPath_114 rfl 2 rfl ?_
              refine z_iconst (pc := 115) (v := (-1)) F dX3_readPath_115 (by decide) ?_
              refine z_callV (pc := 116) (q0 := 3) (ci := 2) (wr := rdw E r (rt 0) (.ref (rp 0)) (mrd S (nI (p2 + 1))) ++ tpw E rt ST) (rest := []) F (c_X2_addNode l E rp (mpv SP (nI G.length) o1 l1 r1) (G.length) (nI (sx p2)) (nI i) (-1) (by omega) rfl (nar_ch (hsx p2))) 3 [3, 4, 5, 6] [0, 1, 2] rfl rfl ⟨by decide, by decide, by decide⟩ ww_Reader_114 (by decide +kernel) rfl (by constructor <;> (dsimp only; omega)) ⟨Nat.le_of_ble_eq_true rfl, Nat.le_of_ble_eq_true rfl⟩ rfl rfl rfl rfl (Nat.le_of_ble_eq_true rfl) dX3_readPath_116 (fun v_ w1_ hp => ?_)
              obtain ⟨rfl, rfl⟩ := hp
              show Z X (0) (0) (rdw E r (rt 0) (.ref (rp 0)) (mrd S (nI (p2 + 1))) ++ tpw E rt ST ++ plw E rp (mpv SP (nI ((G.length) + 1)) (upd o1 (G.length) (nI (sx p2))) (upd l1 (G.length) (nI i)) (upd r1 (G.length) (-1)))) [(0, .ref (r 0)), (1, .int (nI op)), (2, .int (nI i)), (3, .int (nI (sx p2)))] 119 [.int (nI (G.length))]
              exact z_iret (pc := 119) F hR dX3_readPath_119 (Nat.le_of_ble_eq_true rfl) (Nat.le_of_ble_eq_true rfl) (by have e4 := p10_f hl kr k47 rfl (fldO_c kx).2; subst e4; rw [show G.length + 1 = (G ++ [(sx p2, nI i, -1)]).length from (len_add _ _).symm]; exact ce_y he1 he2 he3 (hoN_add hho (c := sx p2) rfl) (by rw [len_add]; omega) rfl (by rw [len_add]; omega) (by have h_ := BL_fld hBP (fldO_r (fldO_c kx).2); rw [(fldO_c kx).1] at h_; exact h_))
            · have k76 : ¬ sx p2 = 98 := fun h => c76 (by rw [h]; rfl)
              refine z_iload_n (pc := 79) F dX3_readPath_79 rfl 3 rfl ?_
              refine z_bipush (pc := 80) (v := 99) F dX3_readPath_80 (by decide) ?_
              refine z_icmp_eq (pc := 82) (tgt := 99) F dX3_readPath_82 (by decide) (fun c82 => ?_) (fun c82 => ?_)
              · have k82 : sx p2 = 99 := nIe (b := 99) (by have := hsx (p2); omega) (by decide) c82
                have kx : sx p2 = 97 ∨ sx p2 = 98 ∨ sx p2 = 99 ∨ sx p2 = 110 ∨ sx p2 = 105 := by omega
                have hlt2 : p2 < tp := sx_lt h0 (by omega)
                refine z_aload_n (pc := 99) F dX3_readPath_99 rfl 0 rfl ?_
                refine z_dup (pc := 100) F dX3_readPath_100 rfl ?_
                refine z_get (pc := 101) (v := .int (nI p2)) F iX3 0 rfl rfl 2 (by decide) tw_149 rfl dX3_readPath_101 ?_
                refine z_iconst (pc := 104) (v := 1) F dX3_readPath_104 (by decide) ?_
                refine z_iadd (pc := 105) F dX3_readPath_105 ?_
                rw [show ((nI p2) + 1) = nI (p2 + 1) from (nI_1 _)]
                refine z_put (pc := 106) (ws' := rdw E r (rt 0) (.ref (rp 0)) (mrd S (nI (p2 + 1))) ++ tpw E rt ST ++ plw E rp (mpv SP (nI G.length) o1 l1 r1)) F iX3 tyX3 tyX3_ok nmX3 0 rfl rfl 2 (by decide) tw_149 rfl rfl rfl (Nat.le_of_ble_eq_true rfl) dX3_readPath_106 rfl ?_
                refine z_aload_n (pc := 109) F dX3_readPath_109 rfl 0 rfl ?_
                refine z_get (pc := 110) (v := .ref (rp 0)) F iX3 0 rfl rfl 1 (by decide) tw_148 rfl dX3_readPath_110 ?_
                refine z_iload_n (pc := 113) F dX3_readPath_113 rfl 3 rfl ?_
                refine z_iload_n (pc := 114) F dX3_readPath_114 rfl 2 rfl ?_
                refine z_iconst (pc := 115) (v := (-1)) F dX3_readPath_115 (by decide) ?_
                refine z_callV (pc := 116) (q0 := 3) (ci := 2) (wr := rdw E r (rt 0) (.ref (rp 0)) (mrd S (nI (p2 + 1))) ++ tpw E rt ST) (rest := []) F (c_X2_addNode l E rp (mpv SP (nI G.length) o1 l1 r1) (G.length) (nI (sx p2)) (nI i) (-1) (by omega) rfl (nar_ch (hsx p2))) 3 [3, 4, 5, 6] [0, 1, 2] rfl rfl ⟨by decide, by decide, by decide⟩ ww_Reader_114 (by decide +kernel) rfl (by constructor <;> (dsimp only; omega)) ⟨Nat.le_of_ble_eq_true rfl, Nat.le_of_ble_eq_true rfl⟩ rfl rfl rfl rfl (Nat.le_of_ble_eq_true rfl) dX3_readPath_116 (fun v_ w1_ hp => ?_)
                obtain ⟨rfl, rfl⟩ := hp
                show Z X (0) (0) (rdw E r (rt 0) (.ref (rp 0)) (mrd S (nI (p2 + 1))) ++ tpw E rt ST ++ plw E rp (mpv SP (nI ((G.length) + 1)) (upd o1 (G.length) (nI (sx p2))) (upd l1 (G.length) (nI i)) (upd r1 (G.length) (-1)))) [(0, .ref (r 0)), (1, .int (nI op)), (2, .int (nI i)), (3, .int (nI (sx p2)))] 119 [.int (nI (G.length))]
                exact z_iret (pc := 119) F hR dX3_readPath_119 (Nat.le_of_ble_eq_true rfl) (Nat.le_of_ble_eq_true rfl) (by have e4 := p10_f hl kr k47 rfl (fldO_c kx).2; subst e4; rw [show G.length + 1 = (G ++ [(sx p2, nI i, -1)]).length from (len_add _ _).symm]; exact ce_y he1 he2 he3 (hoN_add hho (c := sx p2) rfl) (by rw [len_add]; omega) rfl (by rw [len_add]; omega) (by have h_ := BL_fld hBP (fldO_r (fldO_c kx).2); rw [(fldO_c kx).1] at h_; exact h_))
              · have k82 : ¬ sx p2 = 99 := fun h => c82 (by rw [h]; rfl)
                refine z_iload_n (pc := 85) F dX3_readPath_85 rfl 3 rfl ?_
                refine z_bipush (pc := 86) (v := 110) F dX3_readPath_86 (by decide) ?_
                refine z_icmp_eq (pc := 88) (tgt := 99) F dX3_readPath_88 (by decide) (fun c88 => ?_) (fun c88 => ?_)
                · have k88 : sx p2 = 110 := nIe (b := 110) (by have := hsx (p2); omega) (by decide) c88
                  have kx : sx p2 = 97 ∨ sx p2 = 98 ∨ sx p2 = 99 ∨ sx p2 = 110 ∨ sx p2 = 105 := by omega
                  have hlt2 : p2 < tp := sx_lt h0 (by omega)
                  refine z_aload_n (pc := 99) F dX3_readPath_99 rfl 0 rfl ?_
                  refine z_dup (pc := 100) F dX3_readPath_100 rfl ?_
                  refine z_get (pc := 101) (v := .int (nI p2)) F iX3 0 rfl rfl 2 (by decide) tw_149 rfl dX3_readPath_101 ?_
                  refine z_iconst (pc := 104) (v := 1) F dX3_readPath_104 (by decide) ?_
                  refine z_iadd (pc := 105) F dX3_readPath_105 ?_
                  rw [show ((nI p2) + 1) = nI (p2 + 1) from (nI_1 _)]
                  refine z_put (pc := 106) (ws' := rdw E r (rt 0) (.ref (rp 0)) (mrd S (nI (p2 + 1))) ++ tpw E rt ST ++ plw E rp (mpv SP (nI G.length) o1 l1 r1)) F iX3 tyX3 tyX3_ok nmX3 0 rfl rfl 2 (by decide) tw_149 rfl rfl rfl (Nat.le_of_ble_eq_true rfl) dX3_readPath_106 rfl ?_
                  refine z_aload_n (pc := 109) F dX3_readPath_109 rfl 0 rfl ?_
                  refine z_get (pc := 110) (v := .ref (rp 0)) F iX3 0 rfl rfl 1 (by decide) tw_148 rfl dX3_readPath_110 ?_
                  refine z_iload_n (pc := 113) F dX3_readPath_113 rfl 3 rfl ?_
                  refine z_iload_n (pc := 114) F dX3_readPath_114 rfl 2 rfl ?_
                  refine z_iconst (pc := 115) (v := (-1)) F dX3_readPath_115 (by decide) ?_
                  refine z_callV (pc := 116) (q0 := 3) (ci := 2) (wr := rdw E r (rt 0) (.ref (rp 0)) (mrd S (nI (p2 + 1))) ++ tpw E rt ST) (rest := []) F (c_X2_addNode l E rp (mpv SP (nI G.length) o1 l1 r1) (G.length) (nI (sx p2)) (nI i) (-1) (by omega) rfl (nar_ch (hsx p2))) 3 [3, 4, 5, 6] [0, 1, 2] rfl rfl ⟨by decide, by decide, by decide⟩ ww_Reader_114 (by decide +kernel) rfl (by constructor <;> (dsimp only; omega)) ⟨Nat.le_of_ble_eq_true rfl, Nat.le_of_ble_eq_true rfl⟩ rfl rfl rfl rfl (Nat.le_of_ble_eq_true rfl) dX3_readPath_116 (fun v_ w1_ hp => ?_)
                  obtain ⟨rfl, rfl⟩ := hp
                  show Z X (0) (0) (rdw E r (rt 0) (.ref (rp 0)) (mrd S (nI (p2 + 1))) ++ tpw E rt ST ++ plw E rp (mpv SP (nI ((G.length) + 1)) (upd o1 (G.length) (nI (sx p2))) (upd l1 (G.length) (nI i)) (upd r1 (G.length) (-1)))) [(0, .ref (r 0)), (1, .int (nI op)), (2, .int (nI i)), (3, .int (nI (sx p2)))] 119 [.int (nI (G.length))]
                  exact z_iret (pc := 119) F hR dX3_readPath_119 (Nat.le_of_ble_eq_true rfl) (Nat.le_of_ble_eq_true rfl) (by have e4 := p10_f hl kr k47 rfl (fldO_c kx).2; subst e4; rw [show G.length + 1 = (G ++ [(sx p2, nI i, -1)]).length from (len_add _ _).symm]; exact ce_y he1 he2 he3 (hoN_add hho (c := sx p2) rfl) (by rw [len_add]; omega) rfl (by rw [len_add]; omega) (by have h_ := BL_fld hBP (fldO_r (fldO_c kx).2); rw [(fldO_c kx).1] at h_; exact h_))
                · have k88 : ¬ sx p2 = 110 := fun h => c88 (by rw [h]; rfl)
                  refine z_iload_n (pc := 91) F dX3_readPath_91 rfl 3 rfl ?_
                  refine z_bipush (pc := 92) (v := 105) F dX3_readPath_92 (by decide) ?_
                  refine z_icmp_eq (pc := 94) (tgt := 99) F dX3_readPath_94 (by decide) (fun c94 => ?_) (fun c94 => ?_)
                  · have k94 : sx p2 = 105 := nIe (b := 105) (by have := hsx (p2); omega) (by decide) c94
                    have kx : sx p2 = 97 ∨ sx p2 = 98 ∨ sx p2 = 99 ∨ sx p2 = 110 ∨ sx p2 = 105 := by omega
                    have hlt2 : p2 < tp := sx_lt h0 (by omega)
                    refine z_aload_n (pc := 99) F dX3_readPath_99 rfl 0 rfl ?_
                    refine z_dup (pc := 100) F dX3_readPath_100 rfl ?_
                    refine z_get (pc := 101) (v := .int (nI p2)) F iX3 0 rfl rfl 2 (by decide) tw_149 rfl dX3_readPath_101 ?_
                    refine z_iconst (pc := 104) (v := 1) F dX3_readPath_104 (by decide) ?_
                    refine z_iadd (pc := 105) F dX3_readPath_105 ?_
                    rw [show ((nI p2) + 1) = nI (p2 + 1) from (nI_1 _)]
                    refine z_put (pc := 106) (ws' := rdw E r (rt 0) (.ref (rp 0)) (mrd S (nI (p2 + 1))) ++ tpw E rt ST ++ plw E rp (mpv SP (nI G.length) o1 l1 r1)) F iX3 tyX3 tyX3_ok nmX3 0 rfl rfl 2 (by decide) tw_149 rfl rfl rfl (Nat.le_of_ble_eq_true rfl) dX3_readPath_106 rfl ?_
                    refine z_aload_n (pc := 109) F dX3_readPath_109 rfl 0 rfl ?_
                    refine z_get (pc := 110) (v := .ref (rp 0)) F iX3 0 rfl rfl 1 (by decide) tw_148 rfl dX3_readPath_110 ?_
                    refine z_iload_n (pc := 113) F dX3_readPath_113 rfl 3 rfl ?_
                    refine z_iload_n (pc := 114) F dX3_readPath_114 rfl 2 rfl ?_
                    refine z_iconst (pc := 115) (v := (-1)) F dX3_readPath_115 (by decide) ?_
                    refine z_callV (pc := 116) (q0 := 3) (ci := 2) (wr := rdw E r (rt 0) (.ref (rp 0)) (mrd S (nI (p2 + 1))) ++ tpw E rt ST) (rest := []) F (c_X2_addNode l E rp (mpv SP (nI G.length) o1 l1 r1) (G.length) (nI (sx p2)) (nI i) (-1) (by omega) rfl (nar_ch (hsx p2))) 3 [3, 4, 5, 6] [0, 1, 2] rfl rfl ⟨by decide, by decide, by decide⟩ ww_Reader_114 (by decide +kernel) rfl (by constructor <;> (dsimp only; omega)) ⟨Nat.le_of_ble_eq_true rfl, Nat.le_of_ble_eq_true rfl⟩ rfl rfl rfl rfl (Nat.le_of_ble_eq_true rfl) dX3_readPath_116 (fun v_ w1_ hp => ?_)
                    obtain ⟨rfl, rfl⟩ := hp
                    show Z X (0) (0) (rdw E r (rt 0) (.ref (rp 0)) (mrd S (nI (p2 + 1))) ++ tpw E rt ST ++ plw E rp (mpv SP (nI ((G.length) + 1)) (upd o1 (G.length) (nI (sx p2))) (upd l1 (G.length) (nI i)) (upd r1 (G.length) (-1)))) [(0, .ref (r 0)), (1, .int (nI op)), (2, .int (nI i)), (3, .int (nI (sx p2)))] 119 [.int (nI (G.length))]
                    exact z_iret (pc := 119) F hR dX3_readPath_119 (Nat.le_of_ble_eq_true rfl) (Nat.le_of_ble_eq_true rfl) (by have e4 := p10_f hl kr k47 rfl (fldO_c kx).2; subst e4; rw [show G.length + 1 = (G ++ [(sx p2, nI i, -1)]).length from (len_add _ _).symm]; exact ce_y he1 he2 he3 (hoN_add hho (c := sx p2) rfl) (by rw [len_add]; omega) rfl (by rw [len_add]; omega) (by have h_ := BL_fld hBP (fldO_r (fldO_c kx).2); rw [(fldO_c kx).1] at h_; exact h_))
                  · have k94 : ¬ sx p2 = 105 := fun h => c94 (by rw [h]; rfl)
                    refine z_iconst (pc := 97) (v := (-1)) F dX3_readPath_97 (by decide) ?_
                    exact z_iret (pc := 98) F hR dX3_readPath_98 (Nat.le_of_ble_eq_true rfl) (Nat.le_of_ble_eq_true rfl) (by have e4 := p10_f0 hl kr k47 (by simp [fldO, k70, k76, k82, k88, k94]); subst e4; exact ce_n he1 he2 hho (by omega) (Or.inl rfl))
        · have k47 : sx p2 = 116 := nIe (b := 116) (by have := hsx (p2); omega) (by decide) c47
          have hlt2 : p2 < tp := sx_lt h0 (by omega)
          refine z_aload_n (pc := 50) F dX3_readPath_50 rfl 0 rfl ?_
          refine z_dup (pc := 51) F dX3_readPath_51 rfl ?_
          refine z_get (pc := 52) (v := .int (nI p2)) F iX3 0 rfl rfl 2 (by decide) tw_149 rfl dX3_readPath_52 ?_
          refine z_iconst (pc := 55) (v := 1) F dX3_readPath_55 (by decide) ?_
          refine z_iadd (pc := 56) F dX3_readPath_56 ?_
          rw [show ((nI p2) + 1) = nI (p2 + 1) from (nI_1 _)]
          refine z_put (pc := 57) (ws' := rdw E r (rt 0) (.ref (rp 0)) (mrd S (nI (p2 + 1))) ++ tpw E rt ST ++ plw E rp (mpv SP (nI G.length) o1 l1 r1)) F iX3 tyX3 tyX3_ok nmX3 0 rfl rfl 2 (by decide) tw_149 rfl rfl rfl (Nat.le_of_ble_eq_true rfl) dX3_readPath_57 rfl ?_
          refine z_aload_n (pc := 60) F dX3_readPath_60 rfl 0 rfl ?_
          refine z_iload_n (pc := 61) F dX3_readPath_61 rfl 2 rfl ?_
          refine z_iload_n (pc := 62) F dX3_readPath_62 rfl 1 rfl ?_
          refine z_callVW (pc := 63) (q0 := 0) (ci := 3) (rest := []) F (c_X3_readItem_p l E r rt rp S ST SP tp sx k' (p2 + 1) op G o1 l1 r1 ((R0.1, R0.2.1, [(1, 0)] ++ R0.2.2) : zRs) i c0 R4 ht (ihX k' (by omega)) (p10_t hl kr k47) he1 he2 he3 hBP (by omega) (by omega) (by omega) hop hho) 2 ww_Reader_120 (by decide +kernel) rfl (by constructor <;> (dsimp only; omega)) ⟨Nat.le_of_ble_eq_true rfl, Nat.le_of_ble_eq_true rfl⟩ rfl rfl rfl rfl (Nat.le_of_ble_eq_true rfl) dX3_readPath_63 (fun v_ w1_ hp => ?_)
          obtain ⟨v9, G9, o9, l9, r9, rfl, rfl, hho9, hf9⟩ := hp
          show Z X (0) (0) (rdw E r (rt 0) (.ref (rp 0)) (mrd S (nI ((R0.1, R0.2.1, [(1, 0)] ++ R0.2.2) : zRs).2.1)) ++ tpw E rt ST ++ plw E rp (mpv SP (nI G9.length) o9 l9 r9)) [(0, .ref (r 0)), (1, .int (nI op)), (2, .int (nI i)), (3, .int (nI (sx p2)))] 66 [.int v9]
          exact z_iret (pc := 66) F hR dX3_readPath_66 (Nat.le_of_ble_eq_true rfl) (Nat.le_of_ble_eq_true rfl) ⟨v9, G9, o9, l9, r9, rfl, rfl, hho9, cFin_w (by omega) hf9⟩
  exact L4 _ 0 n p [(1, 0)] R0 (Nat.lt_succ_self _) (Nat.le_refl _) hR0 rfl rfl rfl hp rfl (BP_0 G)
set_option maxHeartbeats 4000000 in
set_option maxRecDepth 100000 in
theorem c_X3_readFactor_p (l : Launch) (E : zE) (r : Nat → Nat) (rt : Nat → Nat) (rp : Nat → Nat) (S : zS) (ST : zS) (SP : zS) (tp : Nat) (sx : Nat → Nat) (n : Nat) (p : Nat) (op : Nat) (G : List zNd) (o1 : Nat → Int32) (l1 : Nat → Int32) (r1 : Nat → Int32) (R : zRs) (ht : tpC ST tp sx) (ihT : ∀ m : Nat, m < n → cC l E r rt rp S ST SP tp sx yX3_readFactor cX3_readFactor 4 (fun p op R => ps sx m 9 p op = some R) m) (ihB : ∀ m : Nat, m < n → cC l E r rt rp S ST SP tp sx yX3_readX cX3_readX 5 (fun p op R => ps sx m 5 p op = some R) m) (ihP : ∀ m : Nat, m < n → cC l E r rt rp S ST SP tp sx yX3_readPath cX3_readPath 4 (fun p op R => pcat [(1, 0)] (ps sx m 10 p op) = some R) m) (hH : ps sx n 9 p op = some R) (hp : p ≤ tp) (hN : G.length ≤ p) (hop : op ≤ 12) (hho : hoN G o1 l1 r1) : Ct l yX3_readFactor cX3_readFactor 4 (some .int) (prc n) E (rdw E r (rt 0) (.ref (rp 0)) (mrd S (nI p)) ++ tpw E rt ST ++ plw E rp (mpv SP (nI G.length) o1 l1 r1)) [.ref (r 0), .int (nI op)] (fun v_ w_ => ∃ v : Int32, ∃ G' : List zNd, ∃ o' : Nat → Int32, ∃ l' : Nat → Int32, ∃ r' : Nat → Int32, v_ = some (.int v) ∧ w_ = rdw E r (rt 0) (.ref (rp 0)) (mrd S (nI R.2.1)) ++ tpw E rt ST ++ plw E rp (mpv SP (nI G'.length) o' l' r') ∧ (hoN G' o' l' r') ∧ (cFin sx G p R v G')) := by
  refine Ct.of (by decide) (Nat.le_of_ble_eq_true rfl) (lv := [(0, .ref (r 0)), (1, .int (nI op))]) rfl ?_
  intro X F hR
  have F : zF X l (prc n) E cX3_readFactor 4 "LiveQueries$Reader" := F
  have htp := ht.2.1
  have hsx := ht.2.2.2.2
  have h0 := ht.2.2.2.1
  obtain ⟨n', rfl⟩ : ∃ n', n = n' + 1 := by cases n with | zero => cases hH | succ n' => exact ⟨n', rfl⟩
  refine z_aload_n (pc := 0) F dX3_readFactor_0 rfl 0 rfl ?_
  refine z_callVW (pc := 1) (q0 := 0) (ci := 3) (rest := []) F (c_X3_peek l E r rt rp S ST (mpv SP (nI G.length) o1 l1 r1) tp sx p ht hp) 0 ww_Reader_51 (by decide +kernel) rfl (by constructor <;> (dsimp only; omega)) ⟨Nat.le_of_ble_eq_true rfl, Nat.le_of_ble_eq_true rfl⟩ rfl rfl rfl rfl (Nat.le_of_ble_eq_true rfl) dX3_readFactor_1 (fun v_ w1_ hp => ?_)
  obtain ⟨rfl, rfl⟩ := hp
  show Z X (0) (0) (rdw E r (rt 0) (.ref (rp 0)) (mrd S (nI p)) ++ tpw E rt ST ++ plw E rp (mpv SP (nI G.length) o1 l1 r1)) [(0, .ref (r 0)), (1, .int (nI op))] 4 [.int (nI (sx p))]
  refine z_istore_n (pc := 4) (lv' := [(0, .ref (r 0)), (1, .int (nI op)), (2, .int (nI (sx p)))]) F dX3_readFactor_4 rfl (by decide) [1, 2, 0] rfl ?_
  refine z_iload_n (pc := 5) F dX3_readFactor_5 rfl 2 rfl ?_
  refine z_callS0 (pc := 6) (rest := []) F (c_X3_isDigit l E (sx p) (hsx p)) 1 ww_Reader_111 (by decide +kernel) rfl (by constructor <;> (dsimp only; omega)) ⟨Nat.le_of_ble_eq_true rfl, Nat.le_of_ble_eq_true rfl⟩ rfl (Nat.le_of_ble_eq_true rfl) dX3_readFactor_6 (fun v_ w1_ hp => ?_)
  obtain ⟨rfl, rfl⟩ := hp
  show Z X (0) (0) (rdw E r (rt 0) (.ref (rp 0)) (mrd S (nI p)) ++ tpw E rt ST ++ plw E rp (mpv SP (nI G.length) o1 l1 r1)) [(0, .ref (r 0)), (1, .int (nI op)), (2, .int (nI (sx p)))] 9 [.int (bI (isD (sx p)))]
  refine z_if_eq (pc := 9) (tgt := 29) F dX3_readFactor_9 (by decide) (fun c9 => ?_) (fun c9 => ?_)
  · replace c9 := bI_f c9
    refine z_iload_n (pc := 29) F dX3_readFactor_29 rfl 2 rfl ?_
    refine z_bipush (pc := 30) (v := 45) F dX3_readFactor_30 (by decide) ?_
    refine z_icmp_eq (pc := 32) (tgt := 47) F dX3_readFactor_32 (by decide) (fun c32 => ?_) (fun c32 => ?_)
    · have kA : sx p = 45 := nIe (b := 45) (by have := hsx (p); omega) (by decide) c32
      have hltp : p < tp := sx_lt h0 (by omega)
      refine z_iload_n (pc := 47) F dX3_readFactor_47 rfl 1 rfl ?_
      refine z_bipush (pc := 48) (v := 12) F dX3_readFactor_48 (by decide) ?_
      refine z_icmp_lt (pc := 50) (tgt := 55) F dX3_readFactor_50 (by decide) (fun c50 => ?_) (fun c50 => ?_)
      · have ho12 := (nI_ltI (b := 12) (by omega) (by decide)).mp c50
        refine z_aload_n (pc := 55) F dX3_readFactor_55 rfl 0 rfl ?_
        refine z_dup (pc := 56) F dX3_readFactor_56 rfl ?_
        refine z_get (pc := 57) (v := .int (nI p)) F iX3 0 rfl rfl 2 (by decide) tw_149 rfl dX3_readFactor_57 ?_
        refine z_iconst (pc := 60) (v := 1) F dX3_readFactor_60 (by decide) ?_
        refine z_iadd (pc := 61) F dX3_readFactor_61 ?_
        rw [show ((nI p) + 1) = nI (p + 1) from (nI_1 _)]
        refine z_put (pc := 62) (ws' := rdw E r (rt 0) (.ref (rp 0)) (mrd S (nI (p + 1))) ++ tpw E rt ST ++ plw E rp (mpv SP (nI G.length) o1 l1 r1)) F iX3 tyX3 tyX3_ok nmX3 0 rfl rfl 2 (by decide) tw_149 rfl rfl rfl (Nat.le_of_ble_eq_true rfl) dX3_readFactor_62 rfl ?_
        refine z_iload_n (pc := 65) F dX3_readFactor_65 rfl 2 rfl ?_
        refine z_bipush (pc := 66) (v := 45) F dX3_readFactor_66 (by decide) ?_
        refine z_icmp_ne (pc := 68) (tgt := 91) F dX3_readFactor_68 (by decide) (fun c68 => absurd c68 (fun h => h (by rw [kA]; rfl))) (fun c68 => ?_)
        refine z_aload_n (pc := 71) F dX3_readFactor_71 rfl 0 rfl ?_
        refine z_iload_n (pc := 72) F dX3_readFactor_72 rfl 1 rfl ?_
        refine z_iconst (pc := 73) (v := 1) F dX3_readFactor_73 (by decide) ?_
        refine z_iadd (pc := 74) F dX3_readFactor_74 ?_
        rw [show ((nI op) + 1) = nI (op + 1) from (nI_1 _)]
        obtain ⟨p3, c3, hh3⟩ := pthen_inv (p9_my hH kA (by omega)); rcases hh3 with ⟨h3, e4⟩ | ⟨h3, e4⟩
        · have b3 : (p + 1) ≤ p3 ∧ ((p + 1) ≤ tp → p3 ≤ tp) := by have q_ := ps_b h0 _ _ _ _ _ (by decide) h3; exact ⟨q_.1, q_.2.1⟩
          refine z_callVW (pc := 75) (q0 := 0) (ci := 3) (rest := []) F (cC_n (ihT n' (by omega)) h3 (by omega) (by omega) (by omega) hho) 1 ww_Reader_108 (by decide +kernel) rfl (by constructor <;> (dsimp only; omega)) ⟨Nat.le_of_ble_eq_true rfl, Nat.le_of_ble_eq_true rfl⟩ rfl rfl rfl rfl (Nat.le_of_ble_eq_true rfl) dX3_readFactor_75 (fun v_ w1_ hp => ?_)
          obtain ⟨v3, G3, o3, l3, r3, rfl, rfl, hho3, hln3, hv3⟩ := hp
          show Z X (0) (0) (rdw E r (rt 0) (.ref (rp 0)) (mrd S (nI p3)) ++ tpw E rt ST ++ plw E rp (mpv SP (nI G3.length) o3 l3 r3)) [(0, .ref (r 0)), (1, .int (nI op)), (2, .int (nI (sx p)))] 78 [.int v3]
          refine z_istore_n (pc := 78) (lv' := [(0, .ref (r 0)), (1, .int (nI op)), (2, .int (nI (sx p))), (3, .int v3)]) F dX3_readFactor_78 rfl (by decide) [1, 2, 3, 0] rfl ?_
          refine z_aload_n (pc := 79) F dX3_readFactor_79 rfl 0 rfl ?_
          refine z_get (pc := 80) (v := .ref (rp 0)) F iX3 0 rfl rfl 1 (by decide) tw_148 rfl dX3_readFactor_80 ?_
          refine z_bipush (pc := 83) (v := 95) F dX3_readFactor_83 (by decide) ?_
          refine z_iload_n (pc := 85) F dX3_readFactor_85 rfl 3 rfl ?_
          refine z_iload_n (pc := 86) F dX3_readFactor_86 rfl 3 rfl ?_
          rcases hv3 with hv3 | hv3
          · subst hv3
            refine z_callV (pc := 87) (q0 := 3) (ci := 2) (wr := rdw E r (rt 0) (.ref (rp 0)) (mrd S (nI p3)) ++ tpw E rt ST) (rest := []) F (c_X2_join_n l E rp (mpv SP (nI G3.length) o3 l3 r3) 95 (-1) (-1) (Or.inl rfl)) 3 [3, 4, 5, 6] [0, 1, 2] rfl rfl ⟨by decide, by decide, by decide⟩ ww_Reader_95 (by decide +kernel) rfl (by constructor <;> (dsimp only; omega)) ⟨Nat.le_of_ble_eq_true rfl, Nat.le_of_ble_eq_true rfl⟩ rfl rfl rfl rfl (Nat.le_of_ble_eq_true rfl) dX3_readFactor_87 (fun v_ w1_ hp => ?_)
            obtain ⟨rfl, rfl⟩ := hp
            show Z X (0) (0) (rdw E r (rt 0) (.ref (rp 0)) (mrd S (nI p3)) ++ tpw E rt ST ++ plw E rp (mpv SP (nI G3.length) o3 l3 r3)) [(0, .ref (r 0)), (1, .int (nI op)), (2, .int (nI (sx p))), (3, .int (-1))] 90 [.int (-1)]
            exact z_iret (pc := 90) F hR dX3_readFactor_90 (Nat.le_of_ble_eq_true rfl) (Nat.le_of_ble_eq_true rfl) (by subst e4; exact ce_n rfl rfl hho3 (by omega) (Or.inl rfl))
          · skip
            refine z_callV (pc := 87) (q0 := 3) (ci := 2) (wr := rdw E r (rt 0) (.ref (rp 0)) (mrd S (nI p3)) ++ tpw E rt ST) (rest := []) F (c_X2_join_y l E rp (mpv SP (nI G3.length) o3 l3 r3) (G3.length) 95 v3 v3 (by omega) rfl (by decide) hv3.1 hv3.1) 3 [3, 4, 5, 6] [0, 1, 2] rfl rfl ⟨by decide, by decide, by decide⟩ ww_Reader_95 (by decide +kernel) rfl (by constructor <;> (dsimp only; omega)) ⟨Nat.le_of_ble_eq_true rfl, Nat.le_of_ble_eq_true rfl⟩ rfl rfl rfl rfl (Nat.le_of_ble_eq_true rfl) dX3_readFactor_87 (fun v_ w1_ hp => ?_)
            obtain ⟨rfl, rfl⟩ := hp
            show Z X (0) (0) (rdw E r (rt 0) (.ref (rp 0)) (mrd S (nI p3)) ++ tpw E rt ST ++ plw E rp (mpv SP (nI ((G3.length) + 1)) (upd o3 (G3.length) 95) (upd l3 (G3.length) v3) (upd r3 (G3.length) v3))) [(0, .ref (r 0)), (1, .int (nI op)), (2, .int (nI (sx p))), (3, .int v3)] 90 [.int (nI (G3.length))]
            exact z_iret (pc := 90) F hR dX3_readFactor_90 (Nat.le_of_ble_eq_true rfl) (Nat.le_of_ble_eq_true rfl) (by subst e4; rw [show G3.length + 1 = (G3 ++ [(95, v3, v3)]).length from (len_add _ _).symm]; exact ce_n rfl rfl (hoN_add hho3 (c := 95) rfl) (by rw [len_add]; omega) (Or.inr ⟨nI_nm (by omega), hv3.2⟩))
        · have b3 : (p + 1) ≤ p3 ∧ ((p + 1) ≤ tp → p3 ≤ tp) := by have q_ := ps_b h0 _ _ _ _ _ (by decide) h3; exact ⟨q_.1, q_.2.1⟩
          refine z_callVW (pc := 75) (q0 := 0) (ci := 3) (rest := []) F (cC_y (ihT n' (by omega)) h3 (by omega) (by omega) (by omega) hho) 1 ww_Reader_108 (by decide +kernel) rfl (by constructor <;> (dsimp only; omega)) ⟨Nat.le_of_ble_eq_true rfl, Nat.le_of_ble_eq_true rfl⟩ rfl rfl rfl rfl (Nat.le_of_ble_eq_true rfl) dX3_readFactor_75 (fun v_ w1_ hp => ?_)
          obtain ⟨j3, G3, o3, l3, r3, rfl, rfl, hho3, hln3, hj3, hB3⟩ := hp
          show Z X (0) (0) (rdw E r (rt 0) (.ref (rp 0)) (mrd S (nI p3)) ++ tpw E rt ST ++ plw E rp (mpv SP (nI G3.length) o3 l3 r3)) [(0, .ref (r 0)), (1, .int (nI op)), (2, .int (nI (sx p)))] 78 [.int (nI j3)]
          refine z_istore_n (pc := 78) (lv' := [(0, .ref (r 0)), (1, .int (nI op)), (2, .int (nI (sx p))), (3, .int (nI j3))]) F dX3_readFactor_78 rfl (by decide) [1, 2, 3, 0] rfl ?_
          refine z_aload_n (pc := 79) F dX3_readFactor_79 rfl 0 rfl ?_
          refine z_get (pc := 80) (v := .ref (rp 0)) F iX3 0 rfl rfl 1 (by decide) tw_148 rfl dX3_readFactor_80 ?_
          refine z_bipush (pc := 83) (v := 95) F dX3_readFactor_83 (by decide) ?_
          refine z_iload_n (pc := 85) F dX3_readFactor_85 rfl 3 rfl ?_
          refine z_iload_n (pc := 86) F dX3_readFactor_86 rfl 3 rfl ?_
          refine z_callV (pc := 87) (q0 := 3) (ci := 2) (wr := rdw E r (rt 0) (.ref (rp 0)) (mrd S (nI p3)) ++ tpw E rt ST) (rest := []) F (c_X2_join_y l E rp (mpv SP (nI G3.length) o3 l3 r3) (G3.length) 95 (nI j3) (nI j3) (by omega) rfl (by decide) (nI_nm (by omega)) (nI_nm (by omega))) 3 [3, 4, 5, 6] [0, 1, 2] rfl rfl ⟨by decide, by decide, by decide⟩ ww_Reader_95 (by decide +kernel) rfl (by constructor <;> (dsimp only; omega)) ⟨Nat.le_of_ble_eq_true rfl, Nat.le_of_ble_eq_true rfl⟩ rfl rfl rfl rfl (Nat.le_of_ble_eq_true rfl) dX3_readFactor_87 (fun v_ w1_ hp => ?_)
          obtain ⟨rfl, rfl⟩ := hp
          show Z X (0) (0) (rdw E r (rt 0) (.ref (rp 0)) (mrd S (nI p3)) ++ tpw E rt ST ++ plw E rp (mpv SP (nI ((G3.length) + 1)) (upd o3 (G3.length) 95) (upd l3 (G3.length) (nI j3)) (upd r3 (G3.length) (nI j3)))) [(0, .ref (r 0)), (1, .int (nI op)), (2, .int (nI (sx p))), (3, .int (nI j3))] 90 [.int (nI (G3.length))]
          exact z_iret (pc := 90) F hR dX3_readFactor_90 (Nat.le_of_ble_eq_true rfl) (Nat.le_of_ble_eq_true rfl) (by cases e4; rw [show G3.length + 1 = (G3 ++ [(95, nI j3, nI j3)]).length from (len_add _ _).symm]; exact ce_y rfl rfl rfl (hoN_add hho3 (c := 95) rfl) (by rw [len_add]; omega) rfl (by rw [len_add]; omega) (BL_un hB3 (f := 9) (by decide)))
      · have ho12 : op = 12 := nlt12 hop c50
        refine z_iconst (pc := 53) (v := (-1)) F dX3_readFactor_53 (by decide) ?_
        exact z_iret (pc := 54) F hR dX3_readFactor_54 (Nat.le_of_ble_eq_true rfl) (Nat.le_of_ble_eq_true rfl) (by have e4 := p9_mn hH kA ho12; subst e4; exact ce_n rfl rfl hho (Nat.le_refl _) (Or.inl rfl))
    · have kA : ¬ sx p = 45 := fun h => c32 (by rw [h]; rfl)
      refine z_iload_n (pc := 35) F dX3_readFactor_35 rfl 2 rfl ?_
      refine z_bipush (pc := 36) (v := 40) F dX3_readFactor_36 (by decide) ?_
      refine z_icmp_eq (pc := 38) (tgt := 47) F dX3_readFactor_38 (by decide) (fun c38 => ?_) (fun c38 => ?_)
      · have kB : sx p = 40 := nIe (b := 40) (by have := hsx (p); omega) (by decide) c38
        have hltp : p < tp := sx_lt h0 (by omega)
        refine z_iload_n (pc := 47) F dX3_readFactor_47 rfl 1 rfl ?_
        refine z_bipush (pc := 48) (v := 12) F dX3_readFactor_48 (by decide) ?_
        refine z_icmp_lt (pc := 50) (tgt := 55) F dX3_readFactor_50 (by decide) (fun c50 => ?_) (fun c50 => ?_)
        · have ho12 := (nI_ltI (b := 12) (by omega) (by decide)).mp c50
          refine z_aload_n (pc := 55) F dX3_readFactor_55 rfl 0 rfl ?_
          refine z_dup (pc := 56) F dX3_readFactor_56 rfl ?_
          refine z_get (pc := 57) (v := .int (nI p)) F iX3 0 rfl rfl 2 (by decide) tw_149 rfl dX3_readFactor_57 ?_
          refine z_iconst (pc := 60) (v := 1) F dX3_readFactor_60 (by decide) ?_
          refine z_iadd (pc := 61) F dX3_readFactor_61 ?_
          rw [show ((nI p) + 1) = nI (p + 1) from (nI_1 _)]
          refine z_put (pc := 62) (ws' := rdw E r (rt 0) (.ref (rp 0)) (mrd S (nI (p + 1))) ++ tpw E rt ST ++ plw E rp (mpv SP (nI G.length) o1 l1 r1)) F iX3 tyX3 tyX3_ok nmX3 0 rfl rfl 2 (by decide) tw_149 rfl rfl rfl (Nat.le_of_ble_eq_true rfl) dX3_readFactor_62 rfl ?_
          refine z_iload_n (pc := 65) F dX3_readFactor_65 rfl 2 rfl ?_
          refine z_bipush (pc := 66) (v := 45) F dX3_readFactor_66 (by decide) ?_
          refine z_icmp_ne (pc := 68) (tgt := 91) F dX3_readFactor_68 (by decide) (fun c68 => ?_) (fun c68 => absurd c68 (fun h => kA (nIe (b := 45) (by have := hsx p; omega) (by decide) h)))
          refine z_aload_n (pc := 91) F dX3_readFactor_91 rfl 0 rfl ?_
          refine z_iload_n (pc := 92) F dX3_readFactor_92 rfl 1 rfl ?_
          refine z_iconst (pc := 93) (v := 1) F dX3_readFactor_93 (by decide) ?_
          refine z_iadd (pc := 94) F dX3_readFactor_94 ?_
          rw [show ((nI op) + 1) = nI (op + 1) from (nI_1 _)]
          obtain ⟨p3, c3, hh3⟩ := pthen_inv (p9_py hH kA kB (by omega)); rcases hh3 with ⟨h3, e4⟩ | ⟨h3, e4⟩
          · have b3 : (p + 1) ≤ p3 ∧ ((p + 1) ≤ tp → p3 ≤ tp) := by have q_ := ps_b h0 _ _ _ _ _ (by decide) h3; exact ⟨q_.1, q_.2.1⟩
            refine z_callVW (pc := 95) (q0 := 0) (ci := 3) (rest := []) F (cC_n (ihB n' (by omega)) h3 (by omega) (by omega) (by omega) hho) 1 ww_Reader_74 (by decide +kernel) rfl (by constructor <;> (dsimp only; omega)) ⟨Nat.le_of_ble_eq_true rfl, Nat.le_of_ble_eq_true rfl⟩ rfl rfl rfl rfl (Nat.le_of_ble_eq_true rfl) dX3_readFactor_95 (fun v_ w1_ hp => ?_)
            obtain ⟨v3, G3, o3, l3, r3, rfl, rfl, hho3, hln3, hv3⟩ := hp
            show Z X (0) (0) (rdw E r (rt 0) (.ref (rp 0)) (mrd S (nI p3)) ++ tpw E rt ST ++ plw E rp (mpv SP (nI G3.length) o3 l3 r3)) [(0, .ref (r 0)), (1, .int (nI op)), (2, .int (nI (sx p)))] 98 [.int v3]
            refine z_istore_n (pc := 98) (lv' := [(0, .ref (r 0)), (1, .int (nI op)), (2, .int (nI (sx p))), (3, .int v3)]) F dX3_readFactor_98 rfl (by decide) [1, 2, 3, 0] rfl ?_
            rcases hv3 with hv3 | hv3
            · subst hv3
              refine z_iload_n (pc := 99) F dX3_readFactor_99 rfl 3 rfl ?_
              refine z_iconst (pc := 100) (v := (-1)) F dX3_readFactor_100 (by decide) ?_
              refine z_icmp_eq (pc := 101) (tgt := 117) F dX3_readFactor_101 (by decide) (fun _ => ?_) (fun h => absurd h (by decide))
              refine z_iconst (pc := 117) (v := (-1)) F dX3_readFactor_117 (by decide) ?_
              exact z_iret (pc := 118) F hR dX3_readFactor_118 (Nat.le_of_ble_eq_true rfl) (Nat.le_of_ble_eq_true rfl) (by subst e4; exact ce_n rfl rfl hho3 (by omega) (Or.inl rfl))
            · skip
              refine z_iload_n (pc := 99) F dX3_readFactor_99 rfl 3 rfl ?_
              refine z_iconst (pc := 100) (v := (-1)) F dX3_readFactor_100 (by decide) ?_
              refine z_icmp_eq (pc := 101) (tgt := 117) F dX3_readFactor_101 (by decide) (fun c101 => absurd c101 hv3.1) (fun c101 => ?_)
              refine z_aload_n (pc := 104) F dX3_readFactor_104 rfl 0 rfl ?_
              refine z_bipush (pc := 105) (v := 41) F dX3_readFactor_105 (by decide) ?_
              have kx : ¬ sx p3 = 41 := isD_ne hv3.2 (by decide)
              · have e5 := e4
                refine z_callVW (pc := 107) (q0 := 0) (ci := 3) (rest := []) F (c_X3_pass_n l E r rt rp S ST (mpv SP (nI G3.length) o3 l3 r3) tp sx p3 41 ht (by omega) (by decide) kx) 1 ww_Reader_32 (by decide +kernel) rfl (by constructor <;> (dsimp only; omega)) ⟨Nat.le_of_ble_eq_true rfl, Nat.le_of_ble_eq_true rfl⟩ rfl rfl rfl rfl (Nat.le_of_ble_eq_true rfl) dX3_readFactor_107 (fun v_ w1_ hp => ?_)
                obtain ⟨rfl, rfl⟩ := hp
                show Z X (0) (0) (rdw E r (rt 0) (.ref (rp 0)) (mrd S (nI p3)) ++ tpw E rt ST ++ plw E rp (mpv SP (nI G3.length) o3 l3 r3)) [(0, .ref (r 0)), (1, .int (nI op)), (2, .int (nI (sx p))), (3, .int v3)] 110 [.int (bI false)]
                rw [show (bI false) = 0 from rfl]
                refine z_if_eq (pc := 110) (tgt := 117) F dX3_readFactor_110 (by decide) (fun _ => ?_) (fun h => absurd h (by decide))
                refine z_iconst (pc := 117) (v := (-1)) F dX3_readFactor_117 (by decide) ?_
                exact z_iret (pc := 118) F hR dX3_readFactor_118 (Nat.le_of_ble_eq_true rfl) (Nat.le_of_ble_eq_true rfl) (by subst e5; exact ce_n rfl rfl hho3 (by omega) (Or.inl rfl))
          · have b3 : (p + 1) ≤ p3 ∧ ((p + 1) ≤ tp → p3 ≤ tp) := by have q_ := ps_b h0 _ _ _ _ _ (by decide) h3; exact ⟨q_.1, q_.2.1⟩
            refine z_callVW (pc := 95) (q0 := 0) (ci := 3) (rest := []) F (cC_y (ihB n' (by omega)) h3 (by omega) (by omega) (by omega) hho) 1 ww_Reader_74 (by decide +kernel) rfl (by constructor <;> (dsimp only; omega)) ⟨Nat.le_of_ble_eq_true rfl, Nat.le_of_ble_eq_true rfl⟩ rfl rfl rfl rfl (Nat.le_of_ble_eq_true rfl) dX3_readFactor_95 (fun v_ w1_ hp => ?_)
            obtain ⟨j3, G3, o3, l3, r3, rfl, rfl, hho3, hln3, hj3, hB3⟩ := hp
            show Z X (0) (0) (rdw E r (rt 0) (.ref (rp 0)) (mrd S (nI p3)) ++ tpw E rt ST ++ plw E rp (mpv SP (nI G3.length) o3 l3 r3)) [(0, .ref (r 0)), (1, .int (nI op)), (2, .int (nI (sx p)))] 98 [.int (nI j3)]
            refine z_istore_n (pc := 98) (lv' := [(0, .ref (r 0)), (1, .int (nI op)), (2, .int (nI (sx p))), (3, .int (nI j3))]) F dX3_readFactor_98 rfl (by decide) [1, 2, 3, 0] rfl ?_
            refine z_iload_n (pc := 99) F dX3_readFactor_99 rfl 3 rfl ?_
            refine z_iconst (pc := 100) (v := (-1)) F dX3_readFactor_100 (by decide) ?_
            refine z_icmp_eq (pc := 101) (tgt := 117) F dX3_readFactor_101 (by decide) (fun c101 => absurd c101 (nI_nm (by omega))) (fun c101 => ?_)
            refine z_aload_n (pc := 104) F dX3_readFactor_104 rfl 0 rfl ?_
            refine z_bipush (pc := 105) (v := 41) F dX3_readFactor_105 (by decide) ?_
            rcases Classical.em (sx p3 = 41) with kx | kx
            · have hlt3 : p3 < tp := sx_lt h0 (by omega)
              have e5 := clo_y e4 kx
              refine z_callVW (pc := 107) (q0 := 0) (ci := 3) (rest := []) F (c_X3_pass_y l E r rt rp S ST (mpv SP (nI G3.length) o3 l3 r3) tp sx p3 41 ht (by omega) (by decide) kx) 1 ww_Reader_32 (by decide +kernel) rfl (by constructor <;> (dsimp only; omega)) ⟨Nat.le_of_ble_eq_true rfl, Nat.le_of_ble_eq_true rfl⟩ rfl rfl rfl rfl (Nat.le_of_ble_eq_true rfl) dX3_readFactor_107 (fun v_ w1_ hp => ?_)
              obtain ⟨rfl, rfl⟩ := hp
              show Z X (0) (0) (rdw E r (rt 0) (.ref (rp 0)) (mrd S (nI (p3 + 1))) ++ tpw E rt ST ++ plw E rp (mpv SP (nI G3.length) o3 l3 r3)) [(0, .ref (r 0)), (1, .int (nI op)), (2, .int (nI (sx p))), (3, .int (nI j3))] 110 [.int (bI true)]
              rw [show (bI true) = 1 from rfl]
              refine z_if_eq (pc := 110) (tgt := 117) F dX3_readFactor_110 (by decide) (fun h => absurd h (by decide)) (fun _ => ?_)
              refine z_iload_n (pc := 113) F dX3_readFactor_113 rfl 3 rfl ?_
              refine z_goto (pc := 114) (tgt := 118) F dX3_readFactor_114 (by decide) ?_
              exact z_iret (pc := 118) F hR dX3_readFactor_118 (Nat.le_of_ble_eq_true rfl) (Nat.le_of_ble_eq_true rfl) (by subst e5; exact ce_y rfl rfl rfl hho3 (by omega) rfl hj3 hB3)
            · have e5 := clo_n e4 kx
              refine z_callVW (pc := 107) (q0 := 0) (ci := 3) (rest := []) F (c_X3_pass_n l E r rt rp S ST (mpv SP (nI G3.length) o3 l3 r3) tp sx p3 41 ht (by omega) (by decide) kx) 1 ww_Reader_32 (by decide +kernel) rfl (by constructor <;> (dsimp only; omega)) ⟨Nat.le_of_ble_eq_true rfl, Nat.le_of_ble_eq_true rfl⟩ rfl rfl rfl rfl (Nat.le_of_ble_eq_true rfl) dX3_readFactor_107 (fun v_ w1_ hp => ?_)
              obtain ⟨rfl, rfl⟩ := hp
              show Z X (0) (0) (rdw E r (rt 0) (.ref (rp 0)) (mrd S (nI p3)) ++ tpw E rt ST ++ plw E rp (mpv SP (nI G3.length) o3 l3 r3)) [(0, .ref (r 0)), (1, .int (nI op)), (2, .int (nI (sx p))), (3, .int (nI j3))] 110 [.int (bI false)]
              rw [show (bI false) = 0 from rfl]
              refine z_if_eq (pc := 110) (tgt := 117) F dX3_readFactor_110 (by decide) (fun _ => ?_) (fun h => absurd h (by decide))
              refine z_iconst (pc := 117) (v := (-1)) F dX3_readFactor_117 (by decide) ?_
              exact z_iret (pc := 118) F hR dX3_readFactor_118 (Nat.le_of_ble_eq_true rfl) (Nat.le_of_ble_eq_true rfl) (by subst e5; exact ce_n rfl rfl hho3 (by omega) (Or.inl rfl))
        · have ho12 : op = 12 := nlt12 hop c50
          refine z_iconst (pc := 53) (v := (-1)) F dX3_readFactor_53 (by decide) ?_
          exact z_iret (pc := 54) F hR dX3_readFactor_54 (Nat.le_of_ble_eq_true rfl) (Nat.le_of_ble_eq_true rfl) (by have e4 := p9_pn hH kA kB ho12; subst e4; exact ce_n rfl rfl hho (Nat.le_refl _) (Or.inl rfl))
      · have kB : ¬ sx p = 40 := fun h => c38 (by rw [h]; rfl)
        refine z_aload_n (pc := 41) F dX3_readFactor_41 rfl 0 rfl ?_
        refine z_iload_n (pc := 42) F dX3_readFactor_42 rfl 1 rfl ?_
        refine z_callVW (pc := 43) (q0 := 0) (ci := 3) (rest := []) F (ihP n' (by omega) p op G o1 l1 r1 R (p9_x hH kA kB c9) hp hN hop hho) 1 ww_Reader_117 (by decide +kernel) rfl (by constructor <;> (dsimp only; omega)) ⟨Nat.le_of_ble_eq_true rfl, Nat.le_of_ble_eq_true rfl⟩ rfl rfl rfl rfl (Nat.le_of_ble_eq_true rfl) dX3_readFactor_43 (fun v_ w1_ hp => ?_)
        obtain ⟨v9, G9, o9, l9, r9, rfl, rfl, hho9, hf9⟩ := hp
        show Z X (0) (0) (rdw E r (rt 0) (.ref (rp 0)) (mrd S (nI R.2.1)) ++ tpw E rt ST ++ plw E rp (mpv SP (nI G9.length) o9 l9 r9)) [(0, .ref (r 0)), (1, .int (nI op)), (2, .int (nI (sx p)))] 46 [.int v9]
        exact z_iret (pc := 46) F hR dX3_readFactor_46 (Nat.le_of_ble_eq_true rfl) (Nat.le_of_ble_eq_true rfl) ⟨v9, G9, o9, l9, r9, rfl, rfl, hho9, hf9⟩
  · replace c9 := bI_t c9
    have hltp : p < tp := sx_lt h0 (by have := isD_t c9; omega)
    have hdb := dgs_b h0 9 p 0
    have hdb1 := hdb.2.2 (by decide) c9
    refine z_aload_n (pc := 12) F dX3_readFactor_12 rfl 0 rfl ?_
    refine z_get (pc := 13) (v := .ref (rp 0)) F iX3 0 rfl rfl 1 (by decide) tw_148 rfl dX3_readFactor_13 ?_
    refine z_bipush (pc := 16) (v := 48) F dX3_readFactor_16 (by decide) ?_
    refine z_aload_n (pc := 18) F dX3_readFactor_18 rfl 0 rfl ?_
    refine z_bipush (pc := 19) (v := 9) F dX3_readFactor_19 (by decide) ?_
    refine z_callVW (pc := 21) (q0 := 0) (ci := 3) (rest := [.int 48, .ref (rp 0)]) F (c_X3_readDigits l E r rt rp S ST (mpv SP (nI G.length) o1 l1 r1) tp sx p 9 ht hp (by decide)) 1 ww_Reader_80 (by decide +kernel) rfl (by constructor <;> (dsimp only; omega)) ⟨Nat.le_of_ble_eq_true rfl, Nat.le_of_ble_eq_true rfl⟩ rfl rfl rfl rfl (Nat.le_of_ble_eq_true rfl) dX3_readFactor_21 (fun v_ w1_ hp => ?_)
    obtain ⟨rfl, rfl⟩ := hp
    show Z X (0) (0) (rdw E r (rt 0) (.ref (rp 0)) (mrd S (nI (dgs sx 9 p 0).1)) ++ tpw E rt ST ++ plw E rp (mpv SP (nI G.length) o1 l1 r1)) [(0, .ref (r 0)), (1, .int (nI op)), (2, .int (nI (sx p)))] 24 [.int (nI (dgs sx 9 p 0).2), .int 48, .ref (rp 0)]
    refine z_iconst (pc := 24) (v := 0) F dX3_readFactor_24 (by decide) ?_
    refine z_callV (pc := 25) (q0 := 3) (ci := 2) (wr := rdw E r (rt 0) (.ref (rp 0)) (mrd S (nI (dgs sx 9 p 0).1)) ++ tpw E rt ST) (rest := []) F (c_X2_addNode l E rp (mpv SP (nI G.length) o1 l1 r1) (G.length) 48 (nI (dgs sx 9 p 0).2) 0 (by omega) rfl (by decide)) 3 [3, 4, 5, 6] [0, 1, 2] rfl rfl ⟨by decide, by decide, by decide⟩ ww_Reader_114 (by decide +kernel) rfl (by constructor <;> (dsimp only; omega)) ⟨Nat.le_of_ble_eq_true rfl, Nat.le_of_ble_eq_true rfl⟩ rfl rfl rfl rfl (Nat.le_of_ble_eq_true rfl) dX3_readFactor_25 (fun v_ w1_ hp => ?_)
    obtain ⟨rfl, rfl⟩ := hp
    show Z X (0) (0) (rdw E r (rt 0) (.ref (rp 0)) (mrd S (nI (dgs sx 9 p 0).1)) ++ tpw E rt ST ++ plw E rp (mpv SP (nI ((G.length) + 1)) (upd o1 (G.length) 48) (upd l1 (G.length) (nI (dgs sx 9 p 0).2)) (upd r1 (G.length) 0))) [(0, .ref (r 0)), (1, .int (nI op)), (2, .int (nI (sx p)))] 28 [.int (nI (G.length))]
    exact z_iret (pc := 28) F hR dX3_readFactor_28 (Nat.le_of_ble_eq_true rfl) (Nat.le_of_ble_eq_true rfl) (by have e4 := p9_d hH (isD_ne c9 (by decide)) (isD_ne c9 (by decide)) c9; subst e4; rw [show G.length + 1 = (G ++ [(48, nI (dgs sx 9 p 0).2, 0)]).length from (len_add _ _).symm]; exact ce_b (hoN_add hho (c := 48) rfl) (by rw [len_add]; omega) rfl (by rw [len_add]; omega) (by rw [len_add]; omega) (BL_num G _))

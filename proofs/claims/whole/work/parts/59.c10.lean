set_option maxHeartbeats 4000000 in
set_option maxRecDepth 100000 in
theorem c_X3_readOr_p (l : Launch) (E : zE) (r : Nat → Nat) (rt : Nat → Nat) (rp : Nat → Nat) (S : zS) (ST : zS) (SP : zS) (tp : Nat) (sx : Nat → Nat) (n : Nat) (p : Nat) (op : Nat) (G : List zNd) (o1 : Nat → Int32) (l1 : Nat → Int32) (r1 : Nat → Int32) (R : zRs) (ht : tpC ST tp sx) (ihS : ∀ m : Nat, m < n → cC l E r rt rp S ST SP tp sx yX3_readAnd cX3_readAnd 4 (fun p op R => ps sx m 2 p op = some R) m) (hH : ps sx n 0 p op = some R) (hp : p ≤ tp) (hN : G.length ≤ p) (hop : op ≤ 12) (hho : hoN G o1 l1 r1) : Ct l yX3_readOr cX3_readOr 4 (some .int) (prc n) E (rdw E r (rt 0) (.ref (rp 0)) (mrd S (nI p)) ++ tpw E rt ST ++ plw E rp (mpv SP (nI G.length) o1 l1 r1)) [.ref (r 0), .int (nI op)] (fun v_ w_ => ∃ v : Int32, ∃ G' : List zNd, ∃ o' : Nat → Int32, ∃ l' : Nat → Int32, ∃ r' : Nat → Int32, v_ = some (.int v) ∧ w_ = rdw E r (rt 0) (.ref (rp 0)) (mrd S (nI R.2.1)) ++ tpw E rt ST ++ plw E rp (mpv SP (nI G'.length) o' l' r') ∧ (hoN G' o' l' r') ∧ (cFin sx G p R v G')) := by
  refine Ct.of (by decide) (Nat.le_of_ble_eq_true rfl) (lv := [(0, .ref (r 0)), (1, .int (nI op))]) rfl ?_
  intro X F hR
  have F : zF X l (prc n) E cX3_readOr 4 "LiveQueries$Reader" := F
  have htp := ht.2.1
  have hsx := ht.2.2.2.2
  have h0 := ht.2.2.2.1
  obtain ⟨n', rfl⟩ : ∃ n', n = n' + 1 := by cases n with | zero => cases hH | succ n' => exact ⟨n', rfl⟩
  obtain ⟨p1, c1, hh⟩ := ps_two (sx := sx) (r1 := ps sx n' 2 p op) (g := fun p => ps sx n' 1 p op) hH
  rcases hh with ⟨h1, rfl⟩ | ⟨h1, R2, h2, rfl⟩
  · have b1 : p ≤ p1 ∧ (p ≤ tp → p1 ≤ tp) := by have q_ := ps_b h0 _ _ _ _ _ (by decide) h1; exact ⟨q_.1, q_.2.1⟩
    refine z_aload_n (pc := 0) F dX3_readOr_0 rfl 0 rfl ?_
    refine z_iload_n (pc := 1) F dX3_readOr_1 rfl 1 rfl ?_
    refine z_callVW (pc := 2) (q0 := 0) (ci := 3) (rest := []) F (cC_n (ihS n' (by omega)) h1 hp hN hop hho) 1 ww_Reader_92 (by decide +kernel) rfl (by constructor <;> (dsimp only; omega)) ⟨Nat.le_of_ble_eq_true rfl, Nat.le_of_ble_eq_true rfl⟩ rfl rfl rfl rfl (Nat.le_of_ble_eq_true rfl) dX3_readOr_2 (fun v_ w1_ hp => ?_)
    obtain ⟨v1, G1, o1_, l1_, r1_, rfl, rfl, hho1, hln1, hv1⟩ := hp
    show Z X (0) (0) (rdw E r (rt 0) (.ref (rp 0)) (mrd S (nI p1)) ++ tpw E rt ST ++ plw E rp (mpv SP (nI G1.length) o1_ l1_ r1_)) [(0, .ref (r 0)), (1, .int (nI op))] 5 [.int v1]
    refine z_istore_n (pc := 5) (lv' := [(0, .ref (r 0)), (1, .int (nI op)), (2, .int v1)]) F dX3_readOr_5 rfl (by decide) [1, 2, 0] rfl ?_
    refine z_iconst (pc := 6) (v := 0) F dX3_readOr_6 (by decide) ?_
    refine z_istore_n (pc := 7) (lv' := [(0, .ref (r 0)), (1, .int (nI op)), (2, .int v1), (3, .int 0)]) F dX3_readOr_7 rfl (by decide) [1, 2, 3, 0] rfl ?_
    have L8 : ∀ (N : Nat) (i : Nat) (all : Int32) (p2 : Nat) (G2 : List zNd) (o2 : Nat → Int32) (l2 : Nat → Int32) (r2 : Nat → Int32), (81 - i) < N → (i ≤ p2) → (p2 ≤ tp) → (G2.length + p ≤ G.length + p2) → (hoN G2 o2 l2 r2) → (cLp sx 1 op n' G G2 p2 all (false, p1, c1)) → Z X (0) (0) (rdw E r (rt 0) (.ref (rp 0)) (mrd S (nI p2)) ++ tpw E rt ST ++ plw E rp (mpv SP (nI G2.length) o2 l2 r2)) [(0, .ref (r 0)), (1, .int (nI op)), (2, .int all), (3, .int (nI i))] 8 [] := by
      intro N
      induction N with
      | zero => intro i all p2 G2 o2 l2 r2 hN; exact absurd hN (Nat.not_lt_zero _)
      | succ N ih8 =>
        intro i all p2 G2 o2 l2 r2 hN hi hp2 hln2 hho2 hD
        rcases hD with ⟨j, k, c0, R4, rfl, hj, hk, hl, he1, he2, he3, hB⟩ | ⟨he1, he2, hv⟩
        · obtain ⟨k', rfl⟩ : ∃ k', k = k' + 1 := by cases k with | zero => cases hl | succ k' => exact ⟨k', rfl⟩
          refine z_iload_n (pc := 8) F dX3_readOr_8 rfl 3 rfl ?_
          refine z_bipush (pc := 9) (v := 80) F dX3_readOr_9 (by decide) ?_
          refine z_icmp_ge (pc := 11) (tgt := 50) F dX3_readOr_11 (by decide) (fun c11 => ?_) (fun c11 => ?_)
          · have hi80 := gI (a := 80) (by decide) (by omega) c11
            have hz2 : sx p2 = 0 := h0 p2 (by omega)
            refine z_iload_n (pc := 50) F dX3_readOr_50 rfl 2 rfl ?_
            exact z_iret (pc := 51) F hR dX3_readOr_51 (Nat.le_of_ble_eq_true rfl) (Nat.le_of_ble_eq_true rfl) (by have e4 := ps_1n hl (by omega); subst e4; exact ce_y he1 he2 he3 hho2 hln2 rfl hj (BLc hB))
          · have hi80 := ngI (a := 80) (by decide) (by omega) c11
            refine z_iload_n (pc := 14) F dX3_readOr_14 rfl 2 rfl ?_
            refine z_iconst (pc := 15) (v := (-1)) F dX3_readOr_15 (by decide) ?_
            refine z_icmp_eq (pc := 16) (tgt := 50) F dX3_readOr_16 (by decide) (fun c16 => absurd c16 (nI_nm (by omega))) (fun c16 => ?_)
            refine z_aload_n (pc := 19) F dX3_readOr_19 rfl 0 rfl ?_
            refine z_bipush (pc := 20) (v := 124) F dX3_readOr_20 (by decide) ?_
            rcases Classical.em (sx p2 = 124) with kx | kx
            · skip
              refine z_callVW (pc := 22) (q0 := 0) (ci := 3) (rest := []) F (c_X3_pass_y l E r rt rp S ST (mpv SP (nI G2.length) o2 l2 r2) tp sx p2 124 ht hp2 (by decide) kx) 1 ww_Reader_32 (by decide +kernel) rfl (by constructor <;> (dsimp only; omega)) ⟨Nat.le_of_ble_eq_true rfl, Nat.le_of_ble_eq_true rfl⟩ rfl rfl rfl rfl (Nat.le_of_ble_eq_true rfl) dX3_readOr_22 (fun v_ w1_ hp => ?_)
              obtain ⟨rfl, rfl⟩ := hp
              show Z X (0) (0) (rdw E r (rt 0) (.ref (rp 0)) (mrd S (nI (p2 + 1))) ++ tpw E rt ST ++ plw E rp (mpv SP (nI G2.length) o2 l2 r2)) [(0, .ref (r 0)), (1, .int (nI op)), (2, .int (nI j)), (3, .int (nI i))] 25 [.int (bI true)]
              rw [show (bI true) = 1 from rfl]
              refine z_if_eq (pc := 25) (tgt := 50) F dX3_readOr_25 (by decide) (fun h => absurd h (by decide)) (fun _ => ?_)
              refine z_aload_n (pc := 28) F dX3_readOr_28 rfl 0 rfl ?_
              refine z_get (pc := 29) (v := .ref (rp 0)) F iX3 0 rfl rfl 1 (by decide) tw_148 rfl dX3_readOr_29 ?_
              refine z_bipush (pc := 32) (v := 124) F dX3_readOr_32 (by decide) ?_
              refine z_iload_n (pc := 34) F dX3_readOr_34 rfl 2 rfl ?_
              refine z_aload_n (pc := 35) F dX3_readOr_35 rfl 0 rfl ?_
              refine z_iload_n (pc := 36) F dX3_readOr_36 rfl 1 rfl ?_
              obtain ⟨p3, c3, hh3⟩ := ps_1y hl kx; rcases hh3 with ⟨h3, e4⟩ | ⟨h3, R5, h5, e4⟩
              · have hlt2 : p2 < tp := sx_lt h0 (by omega)
                have b3 : (p2 + 1) ≤ p3 ∧ ((p2 + 1) ≤ tp → p3 ≤ tp) := by have q_ := ps_b h0 _ _ _ _ _ (by decide) h3; exact ⟨q_.1, q_.2.1⟩
                refine z_callVW (pc := 37) (q0 := 0) (ci := 3) (rest := [.int (nI j), .int 124, .ref (rp 0)]) F (cC_n (ihS k' (by omega)) h3 (by omega) (by omega) (by omega) hho2) 1 ww_Reader_92 (by decide +kernel) rfl (by constructor <;> (dsimp only; omega)) ⟨Nat.le_of_ble_eq_true rfl, Nat.le_of_ble_eq_true rfl⟩ rfl rfl rfl rfl (Nat.le_of_ble_eq_true rfl) dX3_readOr_37 (fun v_ w1_ hp => ?_)
                obtain ⟨v3, G3, o3, l3, r3, rfl, rfl, hho3, hln3, hv3⟩ := hp
                show Z X (0) (0) (rdw E r (rt 0) (.ref (rp 0)) (mrd S (nI p3)) ++ tpw E rt ST ++ plw E rp (mpv SP (nI G3.length) o3 l3 r3)) [(0, .ref (r 0)), (1, .int (nI op)), (2, .int (nI j)), (3, .int (nI i))] 40 [.int v3, .int (nI j), .int 124, .ref (rp 0)]
                rcases hv3 with hv3 | hv3
                · subst hv3
                  refine z_callV (pc := 40) (q0 := 3) (ci := 2) (wr := rdw E r (rt 0) (.ref (rp 0)) (mrd S (nI p3)) ++ tpw E rt ST) (rest := []) F (c_X2_join_n l E rp (mpv SP (nI G3.length) o3 l3 r3) 124 (nI j) (-1) (Or.inr rfl)) 3 [3, 4, 5, 6] [0, 1, 2] rfl rfl ⟨by decide, by decide, by decide⟩ ww_Reader_95 (by decide +kernel) rfl (by constructor <;> (dsimp only; omega)) ⟨Nat.le_of_ble_eq_true rfl, Nat.le_of_ble_eq_true rfl⟩ rfl rfl rfl rfl (Nat.le_of_ble_eq_true rfl) dX3_readOr_40 (fun v_ w1_ hp => ?_)
                  obtain ⟨rfl, rfl⟩ := hp
                  show Z X (0) (0) (rdw E r (rt 0) (.ref (rp 0)) (mrd S (nI p3)) ++ tpw E rt ST ++ plw E rp (mpv SP (nI G3.length) o3 l3 r3)) [(0, .ref (r 0)), (1, .int (nI op)), (2, .int (nI j)), (3, .int (nI i))] 43 [.int (-1)]
                  refine z_istore_n (pc := 43) (lv' := [(0, .ref (r 0)), (1, .int (nI op)), (2, .int (-1)), (3, .int (nI i))]) F dX3_readOr_43 rfl (by decide) [1, 2, 0, 3] rfl ?_
                  refine z_iinc (pc := 44) (v := nI (i + 1)) (lv' := [(0, .ref (r 0)), (1, .int (nI op)), (2, .int (-1)), (3, .int (nI (i + 1)))]) F (j := 3) dX3_readOr_44 rfl (nI_1 _) (by decide) [1, 2, 3, 0] rfl ?_
                  refine z_goto (pc := 47) (tgt := 8) F dX3_readOr_47 (by decide) ?_
                  subst e4; exact ih8 (i + 1) (-1) p3 G3 _ _ _ (by omega) (by omega) (by omega) (by omega) hho3 (Or.inr ⟨he1, he2, Or.inl rfl⟩)
                · skip
                  refine z_callV (pc := 40) (q0 := 3) (ci := 2) (wr := rdw E r (rt 0) (.ref (rp 0)) (mrd S (nI p3)) ++ tpw E rt ST) (rest := []) F (c_X2_join_y l E rp (mpv SP (nI G3.length) o3 l3 r3) (G3.length) 124 (nI j) v3 (by omega) rfl (by decide) (nI_nm (by omega)) hv3.1) 3 [3, 4, 5, 6] [0, 1, 2] rfl rfl ⟨by decide, by decide, by decide⟩ ww_Reader_95 (by decide +kernel) rfl (by constructor <;> (dsimp only; omega)) ⟨Nat.le_of_ble_eq_true rfl, Nat.le_of_ble_eq_true rfl⟩ rfl rfl rfl rfl (Nat.le_of_ble_eq_true rfl) dX3_readOr_40 (fun v_ w1_ hp => ?_)
                  obtain ⟨rfl, rfl⟩ := hp
                  show Z X (0) (0) (rdw E r (rt 0) (.ref (rp 0)) (mrd S (nI p3)) ++ tpw E rt ST ++ plw E rp (mpv SP (nI ((G3.length) + 1)) (upd o3 (G3.length) 124) (upd l3 (G3.length) (nI j)) (upd r3 (G3.length) v3))) [(0, .ref (r 0)), (1, .int (nI op)), (2, .int (nI j)), (3, .int (nI i))] 43 [.int (nI (G3.length))]
                  refine z_istore_n (pc := 43) (lv' := [(0, .ref (r 0)), (1, .int (nI op)), (2, .int (nI (G3.length))), (3, .int (nI i))]) F dX3_readOr_43 rfl (by decide) [1, 2, 0, 3] rfl ?_
                  refine z_iinc (pc := 44) (v := nI (i + 1)) (lv' := [(0, .ref (r 0)), (1, .int (nI op)), (2, .int (nI (G3.length))), (3, .int (nI (i + 1)))]) F (j := 3) dX3_readOr_44 rfl (nI_1 _) (by decide) [1, 2, 3, 0] rfl ?_
                  refine z_goto (pc := 47) (tgt := 8) F dX3_readOr_47 (by decide) ?_
                  subst e4; rw [show G3.length + 1 = (G3 ++ [(124, nI j, v3)]).length from (len_add _ _).symm]; have hA9 := hoN_add (c := 124) hho3 (c' := 124) (a := nI j) (b := v3) rfl; exact ih8 (i + 1) (nI G3.length) p3 (G3 ++ [(124, nI j, v3)]) _ _ _ (by omega) (by omega) (by omega) (by rw [len_add]; omega) hA9 (Or.inr ⟨he1, he2, Or.inr ⟨nI_nm (by omega), hv3.2⟩⟩)
              · have hlt2 : p2 < tp := sx_lt h0 (by omega)
                have b3 : (p2 + 1) ≤ p3 ∧ ((p2 + 1) ≤ tp → p3 ≤ tp) := by have q_ := ps_b h0 _ _ _ _ _ (by decide) h3; exact ⟨q_.1, q_.2.1⟩
                refine z_callVW (pc := 37) (q0 := 0) (ci := 3) (rest := [.int (nI j), .int 124, .ref (rp 0)]) F (cC_y (ihS k' (by omega)) h3 (by omega) (by omega) (by omega) hho2) 1 ww_Reader_92 (by decide +kernel) rfl (by constructor <;> (dsimp only; omega)) ⟨Nat.le_of_ble_eq_true rfl, Nat.le_of_ble_eq_true rfl⟩ rfl rfl rfl rfl (Nat.le_of_ble_eq_true rfl) dX3_readOr_37 (fun v_ w1_ hp => ?_)
                obtain ⟨j3, G3, o3, l3, r3, rfl, rfl, hho3, hln3, hj3, hB3⟩ := hp
                show Z X (0) (0) (rdw E r (rt 0) (.ref (rp 0)) (mrd S (nI p3)) ++ tpw E rt ST ++ plw E rp (mpv SP (nI G3.length) o3 l3 r3)) [(0, .ref (r 0)), (1, .int (nI op)), (2, .int (nI j)), (3, .int (nI i))] 40 [.int (nI j3), .int (nI j), .int 124, .ref (rp 0)]
                refine z_callV (pc := 40) (q0 := 3) (ci := 2) (wr := rdw E r (rt 0) (.ref (rp 0)) (mrd S (nI p3)) ++ tpw E rt ST) (rest := []) F (c_X2_join_y l E rp (mpv SP (nI G3.length) o3 l3 r3) (G3.length) 124 (nI j) (nI j3) (by omega) rfl (by decide) (nI_nm (by omega)) (nI_nm (by omega))) 3 [3, 4, 5, 6] [0, 1, 2] rfl rfl ⟨by decide, by decide, by decide⟩ ww_Reader_95 (by decide +kernel) rfl (by constructor <;> (dsimp only; omega)) ⟨Nat.le_of_ble_eq_true rfl, Nat.le_of_ble_eq_true rfl⟩ rfl rfl rfl rfl (Nat.le_of_ble_eq_true rfl) dX3_readOr_40 (fun v_ w1_ hp => ?_)
                obtain ⟨rfl, rfl⟩ := hp
                show Z X (0) (0) (rdw E r (rt 0) (.ref (rp 0)) (mrd S (nI p3)) ++ tpw E rt ST ++ plw E rp (mpv SP (nI ((G3.length) + 1)) (upd o3 (G3.length) 124) (upd l3 (G3.length) (nI j)) (upd r3 (G3.length) (nI j3)))) [(0, .ref (r 0)), (1, .int (nI op)), (2, .int (nI j)), (3, .int (nI i))] 43 [.int (nI (G3.length))]
                refine z_istore_n (pc := 43) (lv' := [(0, .ref (r 0)), (1, .int (nI op)), (2, .int (nI (G3.length))), (3, .int (nI i))]) F dX3_readOr_43 rfl (by decide) [1, 2, 0, 3] rfl ?_
                refine z_iinc (pc := 44) (v := nI (i + 1)) (lv' := [(0, .ref (r 0)), (1, .int (nI op)), (2, .int (nI (G3.length))), (3, .int (nI (i + 1)))]) F (j := 3) dX3_readOr_44 rfl (nI_1 _) (by decide) [1, 2, 3, 0] rfl ?_
                refine z_goto (pc := 47) (tgt := 8) F dX3_readOr_47 (by decide) ?_
                subst e4; rw [show G3.length + 1 = (G3 ++ [(124, nI j, nI j3)]).length from (len_add _ _).symm]; have hA9 := hoN_add (c := 124) hho3 (c' := 124) (a := nI j) (b := nI j3) rfl; exact ih8 (i + 1) (nI G3.length) p3 (G3 ++ [(124, nI j, nI j3)]) _ _ _ (by omega) (by omega) (by omega) (by rw [len_add]; omega) hA9 (Or.inl ⟨G3.length, k', c0 ++ (c3 ++ [(20, 0)]), R5, rfl, by rw [len_add]; omega, by omega, h5, he1, he2, (by rw [List.append_assoc]; exact he3), BL_bin hB hB3 (by decide)⟩)
            · skip
              refine z_callVW (pc := 22) (q0 := 0) (ci := 3) (rest := []) F (c_X3_pass_n l E r rt rp S ST (mpv SP (nI G2.length) o2 l2 r2) tp sx p2 124 ht hp2 (by decide) kx) 1 ww_Reader_32 (by decide +kernel) rfl (by constructor <;> (dsimp only; omega)) ⟨Nat.le_of_ble_eq_true rfl, Nat.le_of_ble_eq_true rfl⟩ rfl rfl rfl rfl (Nat.le_of_ble_eq_true rfl) dX3_readOr_22 (fun v_ w1_ hp => ?_)
              obtain ⟨rfl, rfl⟩ := hp
              show Z X (0) (0) (rdw E r (rt 0) (.ref (rp 0)) (mrd S (nI p2)) ++ tpw E rt ST ++ plw E rp (mpv SP (nI G2.length) o2 l2 r2)) [(0, .ref (r 0)), (1, .int (nI op)), (2, .int (nI j)), (3, .int (nI i))] 25 [.int (bI false)]
              rw [show (bI false) = 0 from rfl]
              refine z_if_eq (pc := 25) (tgt := 50) F dX3_readOr_25 (by decide) (fun _ => ?_) (fun h => absurd h (by decide))
              refine z_iload_n (pc := 50) F dX3_readOr_50 rfl 2 rfl ?_
              exact z_iret (pc := 51) F hR dX3_readOr_51 (Nat.le_of_ble_eq_true rfl) (Nat.le_of_ble_eq_true rfl) (by have e4 := ps_1n hl (by omega); subst e4; exact ce_y he1 he2 he3 hho2 hln2 rfl hj (BLc hB))
        · skip
          refine z_iload_n (pc := 8) F dX3_readOr_8 rfl 3 rfl ?_
          rcases hv with hv | hv
          · subst hv
            refine z_bipush (pc := 9) (v := 80) F dX3_readOr_9 (by decide) ?_
            refine z_icmp_ge (pc := 11) (tgt := 50) F dX3_readOr_11 (by decide) (fun c11 => ?_) (fun c11 => ?_)
            · have hi80 := gI (a := 80) (by decide) (by omega) c11
              have hz2 : sx p2 = 0 := h0 p2 (by omega)
              refine z_iload_n (pc := 50) F dX3_readOr_50 rfl 2 rfl ?_
              exact z_iret (pc := 51) F hR dX3_readOr_51 (Nat.le_of_ble_eq_true rfl) (Nat.le_of_ble_eq_true rfl) (ce_n he1 he2 hho2 hln2 (Or.inl rfl))
            · have hi80 := ngI (a := 80) (by decide) (by omega) c11
              refine z_iload_n (pc := 14) F dX3_readOr_14 rfl 2 rfl ?_
              refine z_iconst (pc := 15) (v := (-1)) F dX3_readOr_15 (by decide) ?_
              refine z_icmp_eq (pc := 16) (tgt := 50) F dX3_readOr_16 (by decide) (fun _ => ?_) (fun h => absurd h (by decide))
              refine z_iload_n (pc := 50) F dX3_readOr_50 rfl 2 rfl ?_
              exact z_iret (pc := 51) F hR dX3_readOr_51 (Nat.le_of_ble_eq_true rfl) (Nat.le_of_ble_eq_true rfl) (ce_n he1 he2 hho2 hln2 (Or.inl rfl))
          · skip
            refine z_bipush (pc := 9) (v := 80) F dX3_readOr_9 (by decide) ?_
            refine z_icmp_ge (pc := 11) (tgt := 50) F dX3_readOr_11 (by decide) (fun c11 => ?_) (fun c11 => ?_)
            · have hi80 := gI (a := 80) (by decide) (by omega) c11
              have hz2 : sx p2 = 0 := h0 p2 (by omega)
              refine z_iload_n (pc := 50) F dX3_readOr_50 rfl 2 rfl ?_
              exact z_iret (pc := 51) F hR dX3_readOr_51 (Nat.le_of_ble_eq_true rfl) (Nat.le_of_ble_eq_true rfl) (ce_n he1 he2 hho2 hln2 (Or.inr hv))
            · have hi80 := ngI (a := 80) (by decide) (by omega) c11
              refine z_iload_n (pc := 14) F dX3_readOr_14 rfl 2 rfl ?_
              refine z_iconst (pc := 15) (v := (-1)) F dX3_readOr_15 (by decide) ?_
              refine z_icmp_eq (pc := 16) (tgt := 50) F dX3_readOr_16 (by decide) (fun c16 => absurd c16 hv.1) (fun c16 => ?_)
              refine z_aload_n (pc := 19) F dX3_readOr_19 rfl 0 rfl ?_
              refine z_bipush (pc := 20) (v := 124) F dX3_readOr_20 (by decide) ?_
              have kx : ¬ sx p2 = 124 := isD_ne hv.2 (by decide)
              · skip
                refine z_callVW (pc := 22) (q0 := 0) (ci := 3) (rest := []) F (c_X3_pass_n l E r rt rp S ST (mpv SP (nI G2.length) o2 l2 r2) tp sx p2 124 ht hp2 (by decide) kx) 1 ww_Reader_32 (by decide +kernel) rfl (by constructor <;> (dsimp only; omega)) ⟨Nat.le_of_ble_eq_true rfl, Nat.le_of_ble_eq_true rfl⟩ rfl rfl rfl rfl (Nat.le_of_ble_eq_true rfl) dX3_readOr_22 (fun v_ w1_ hp => ?_)
                obtain ⟨rfl, rfl⟩ := hp
                show Z X (0) (0) (rdw E r (rt 0) (.ref (rp 0)) (mrd S (nI p2)) ++ tpw E rt ST ++ plw E rp (mpv SP (nI G2.length) o2 l2 r2)) [(0, .ref (r 0)), (1, .int (nI op)), (2, .int all), (3, .int (nI i))] 25 [.int (bI false)]
                rw [show (bI false) = 0 from rfl]
                refine z_if_eq (pc := 25) (tgt := 50) F dX3_readOr_25 (by decide) (fun _ => ?_) (fun h => absurd h (by decide))
                refine z_iload_n (pc := 50) F dX3_readOr_50 rfl 2 rfl ?_
                exact z_iret (pc := 51) F hR dX3_readOr_51 (Nat.le_of_ble_eq_true rfl) (Nat.le_of_ble_eq_true rfl) (ce_n he1 he2 hho2 hln2 (Or.inr hv))
    exact L8 _ 0 v1 p1 G1 o1_ l1_ r1_ (Nat.lt_succ_self _) (Nat.zero_le _) (by omega) hln1 hho1 (Or.inr ⟨rfl, rfl, hv1⟩)
  · have b1 : p ≤ p1 ∧ (p ≤ tp → p1 ≤ tp) := by have q_ := ps_b h0 _ _ _ _ _ (by decide) h1; exact ⟨q_.1, q_.2.1⟩
    refine z_aload_n (pc := 0) F dX3_readOr_0 rfl 0 rfl ?_
    refine z_iload_n (pc := 1) F dX3_readOr_1 rfl 1 rfl ?_
    refine z_callVW (pc := 2) (q0 := 0) (ci := 3) (rest := []) F (cC_y (ihS n' (by omega)) h1 hp hN hop hho) 1 ww_Reader_92 (by decide +kernel) rfl (by constructor <;> (dsimp only; omega)) ⟨Nat.le_of_ble_eq_true rfl, Nat.le_of_ble_eq_true rfl⟩ rfl rfl rfl rfl (Nat.le_of_ble_eq_true rfl) dX3_readOr_2 (fun v_ w1_ hp => ?_)
    obtain ⟨j1, G1, o1_, l1_, r1_, rfl, rfl, hho1, hln1, hj1, hB1⟩ := hp
    show Z X (0) (0) (rdw E r (rt 0) (.ref (rp 0)) (mrd S (nI p1)) ++ tpw E rt ST ++ plw E rp (mpv SP (nI G1.length) o1_ l1_ r1_)) [(0, .ref (r 0)), (1, .int (nI op))] 5 [.int (nI j1)]
    refine z_istore_n (pc := 5) (lv' := [(0, .ref (r 0)), (1, .int (nI op)), (2, .int (nI j1))]) F dX3_readOr_5 rfl (by decide) [1, 2, 0] rfl ?_
    refine z_iconst (pc := 6) (v := 0) F dX3_readOr_6 (by decide) ?_
    refine z_istore_n (pc := 7) (lv' := [(0, .ref (r 0)), (1, .int (nI op)), (2, .int (nI j1)), (3, .int 0)]) F dX3_readOr_7 rfl (by decide) [1, 2, 3, 0] rfl ?_
    have L8 : ∀ (N : Nat) (i : Nat) (all : Int32) (p2 : Nat) (G2 : List zNd) (o2 : Nat → Int32) (l2 : Nat → Int32) (r2 : Nat → Int32), (81 - i) < N → (i ≤ p2) → (p2 ≤ tp) → (G2.length + p ≤ G.length + p2) → (hoN G2 o2 l2 r2) → (cLp sx 1 op n' G G2 p2 all (R2.1, R2.2.1, c1 ++ R2.2.2)) → Z X (0) (0) (rdw E r (rt 0) (.ref (rp 0)) (mrd S (nI p2)) ++ tpw E rt ST ++ plw E rp (mpv SP (nI G2.length) o2 l2 r2)) [(0, .ref (r 0)), (1, .int (nI op)), (2, .int all), (3, .int (nI i))] 8 [] := by
      intro N
      induction N with
      | zero => intro i all p2 G2 o2 l2 r2 hN; exact absurd hN (Nat.not_lt_zero _)
      | succ N ih8 =>
        intro i all p2 G2 o2 l2 r2 hN hi hp2 hln2 hho2 hD
        rcases hD with ⟨j, k, c0, R4, rfl, hj, hk, hl, he1, he2, he3, hB⟩ | ⟨he1, he2, hv⟩
        · obtain ⟨k', rfl⟩ : ∃ k', k = k' + 1 := by cases k with | zero => cases hl | succ k' => exact ⟨k', rfl⟩
          refine z_iload_n (pc := 8) F dX3_readOr_8 rfl 3 rfl ?_
          refine z_bipush (pc := 9) (v := 80) F dX3_readOr_9 (by decide) ?_
          refine z_icmp_ge (pc := 11) (tgt := 50) F dX3_readOr_11 (by decide) (fun c11 => ?_) (fun c11 => ?_)
          · have hi80 := gI (a := 80) (by decide) (by omega) c11
            have hz2 : sx p2 = 0 := h0 p2 (by omega)
            refine z_iload_n (pc := 50) F dX3_readOr_50 rfl 2 rfl ?_
            exact z_iret (pc := 51) F hR dX3_readOr_51 (Nat.le_of_ble_eq_true rfl) (Nat.le_of_ble_eq_true rfl) (by have e4 := ps_1n hl (by omega); subst e4; exact ce_y he1 he2 he3 hho2 hln2 rfl hj (BLc hB))
          · have hi80 := ngI (a := 80) (by decide) (by omega) c11
            refine z_iload_n (pc := 14) F dX3_readOr_14 rfl 2 rfl ?_
            refine z_iconst (pc := 15) (v := (-1)) F dX3_readOr_15 (by decide) ?_
            refine z_icmp_eq (pc := 16) (tgt := 50) F dX3_readOr_16 (by decide) (fun c16 => absurd c16 (nI_nm (by omega))) (fun c16 => ?_)
            refine z_aload_n (pc := 19) F dX3_readOr_19 rfl 0 rfl ?_
            refine z_bipush (pc := 20) (v := 124) F dX3_readOr_20 (by decide) ?_
            rcases Classical.em (sx p2 = 124) with kx | kx
            · skip
              refine z_callVW (pc := 22) (q0 := 0) (ci := 3) (rest := []) F (c_X3_pass_y l E r rt rp S ST (mpv SP (nI G2.length) o2 l2 r2) tp sx p2 124 ht hp2 (by decide) kx) 1 ww_Reader_32 (by decide +kernel) rfl (by constructor <;> (dsimp only; omega)) ⟨Nat.le_of_ble_eq_true rfl, Nat.le_of_ble_eq_true rfl⟩ rfl rfl rfl rfl (Nat.le_of_ble_eq_true rfl) dX3_readOr_22 (fun v_ w1_ hp => ?_)
              obtain ⟨rfl, rfl⟩ := hp
              show Z X (0) (0) (rdw E r (rt 0) (.ref (rp 0)) (mrd S (nI (p2 + 1))) ++ tpw E rt ST ++ plw E rp (mpv SP (nI G2.length) o2 l2 r2)) [(0, .ref (r 0)), (1, .int (nI op)), (2, .int (nI j)), (3, .int (nI i))] 25 [.int (bI true)]
              rw [show (bI true) = 1 from rfl]
              refine z_if_eq (pc := 25) (tgt := 50) F dX3_readOr_25 (by decide) (fun h => absurd h (by decide)) (fun _ => ?_)
              refine z_aload_n (pc := 28) F dX3_readOr_28 rfl 0 rfl ?_
              refine z_get (pc := 29) (v := .ref (rp 0)) F iX3 0 rfl rfl 1 (by decide) tw_148 rfl dX3_readOr_29 ?_
              refine z_bipush (pc := 32) (v := 124) F dX3_readOr_32 (by decide) ?_
              refine z_iload_n (pc := 34) F dX3_readOr_34 rfl 2 rfl ?_
              refine z_aload_n (pc := 35) F dX3_readOr_35 rfl 0 rfl ?_
              refine z_iload_n (pc := 36) F dX3_readOr_36 rfl 1 rfl ?_
              obtain ⟨p3, c3, hh3⟩ := ps_1y hl kx; rcases hh3 with ⟨h3, e4⟩ | ⟨h3, R5, h5, e4⟩
              · have hlt2 : p2 < tp := sx_lt h0 (by omega)
                have b3 : (p2 + 1) ≤ p3 ∧ ((p2 + 1) ≤ tp → p3 ≤ tp) := by have q_ := ps_b h0 _ _ _ _ _ (by decide) h3; exact ⟨q_.1, q_.2.1⟩
                refine z_callVW (pc := 37) (q0 := 0) (ci := 3) (rest := [.int (nI j), .int 124, .ref (rp 0)]) F (cC_n (ihS k' (by omega)) h3 (by omega) (by omega) (by omega) hho2) 1 ww_Reader_92 (by decide +kernel) rfl (by constructor <;> (dsimp only; omega)) ⟨Nat.le_of_ble_eq_true rfl, Nat.le_of_ble_eq_true rfl⟩ rfl rfl rfl rfl (Nat.le_of_ble_eq_true rfl) dX3_readOr_37 (fun v_ w1_ hp => ?_)
                obtain ⟨v3, G3, o3, l3, r3, rfl, rfl, hho3, hln3, hv3⟩ := hp
                show Z X (0) (0) (rdw E r (rt 0) (.ref (rp 0)) (mrd S (nI p3)) ++ tpw E rt ST ++ plw E rp (mpv SP (nI G3.length) o3 l3 r3)) [(0, .ref (r 0)), (1, .int (nI op)), (2, .int (nI j)), (3, .int (nI i))] 40 [.int v3, .int (nI j), .int 124, .ref (rp 0)]
                rcases hv3 with hv3 | hv3
                · subst hv3
                  refine z_callV (pc := 40) (q0 := 3) (ci := 2) (wr := rdw E r (rt 0) (.ref (rp 0)) (mrd S (nI p3)) ++ tpw E rt ST) (rest := []) F (c_X2_join_n l E rp (mpv SP (nI G3.length) o3 l3 r3) 124 (nI j) (-1) (Or.inr rfl)) 3 [3, 4, 5, 6] [0, 1, 2] rfl rfl ⟨by decide, by decide, by decide⟩ ww_Reader_95 (by decide +kernel) rfl (by constructor <;> (dsimp only; omega)) ⟨Nat.le_of_ble_eq_true rfl, Nat.le_of_ble_eq_true rfl⟩ rfl rfl rfl rfl (Nat.le_of_ble_eq_true rfl) dX3_readOr_40 (fun v_ w1_ hp => ?_)
                  obtain ⟨rfl, rfl⟩ := hp
                  show Z X (0) (0) (rdw E r (rt 0) (.ref (rp 0)) (mrd S (nI p3)) ++ tpw E rt ST ++ plw E rp (mpv SP (nI G3.length) o3 l3 r3)) [(0, .ref (r 0)), (1, .int (nI op)), (2, .int (nI j)), (3, .int (nI i))] 43 [.int (-1)]
                  refine z_istore_n (pc := 43) (lv' := [(0, .ref (r 0)), (1, .int (nI op)), (2, .int (-1)), (3, .int (nI i))]) F dX3_readOr_43 rfl (by decide) [1, 2, 0, 3] rfl ?_
                  refine z_iinc (pc := 44) (v := nI (i + 1)) (lv' := [(0, .ref (r 0)), (1, .int (nI op)), (2, .int (-1)), (3, .int (nI (i + 1)))]) F (j := 3) dX3_readOr_44 rfl (nI_1 _) (by decide) [1, 2, 3, 0] rfl ?_
                  refine z_goto (pc := 47) (tgt := 8) F dX3_readOr_47 (by decide) ?_
                  subst e4; exact ih8 (i + 1) (-1) p3 G3 _ _ _ (by omega) (by omega) (by omega) (by omega) hho3 (Or.inr ⟨he1, he2, Or.inl rfl⟩)
                · skip
                  refine z_callV (pc := 40) (q0 := 3) (ci := 2) (wr := rdw E r (rt 0) (.ref (rp 0)) (mrd S (nI p3)) ++ tpw E rt ST) (rest := []) F (c_X2_join_y l E rp (mpv SP (nI G3.length) o3 l3 r3) (G3.length) 124 (nI j) v3 (by omega) rfl (by decide) (nI_nm (by omega)) hv3.1) 3 [3, 4, 5, 6] [0, 1, 2] rfl rfl ⟨by decide, by decide, by decide⟩ ww_Reader_95 (by decide +kernel) rfl (by constructor <;> (dsimp only; omega)) ⟨Nat.le_of_ble_eq_true rfl, Nat.le_of_ble_eq_true rfl⟩ rfl rfl rfl rfl (Nat.le_of_ble_eq_true rfl) dX3_readOr_40 (fun v_ w1_ hp => ?_)
                  obtain ⟨rfl, rfl⟩ := hp
                  show Z X (0) (0) (rdw E r (rt 0) (.ref (rp 0)) (mrd S (nI p3)) ++ tpw E rt ST ++ plw E rp (mpv SP (nI ((G3.length) + 1)) (upd o3 (G3.length) 124) (upd l3 (G3.length) (nI j)) (upd r3 (G3.length) v3))) [(0, .ref (r 0)), (1, .int (nI op)), (2, .int (nI j)), (3, .int (nI i))] 43 [.int (nI (G3.length))]
                  refine z_istore_n (pc := 43) (lv' := [(0, .ref (r 0)), (1, .int (nI op)), (2, .int (nI (G3.length))), (3, .int (nI i))]) F dX3_readOr_43 rfl (by decide) [1, 2, 0, 3] rfl ?_
                  refine z_iinc (pc := 44) (v := nI (i + 1)) (lv' := [(0, .ref (r 0)), (1, .int (nI op)), (2, .int (nI (G3.length))), (3, .int (nI (i + 1)))]) F (j := 3) dX3_readOr_44 rfl (nI_1 _) (by decide) [1, 2, 3, 0] rfl ?_
                  refine z_goto (pc := 47) (tgt := 8) F dX3_readOr_47 (by decide) ?_
                  subst e4; rw [show G3.length + 1 = (G3 ++ [(124, nI j, v3)]).length from (len_add _ _).symm]; have hA9 := hoN_add (c := 124) hho3 (c' := 124) (a := nI j) (b := v3) rfl; exact ih8 (i + 1) (nI G3.length) p3 (G3 ++ [(124, nI j, v3)]) _ _ _ (by omega) (by omega) (by omega) (by rw [len_add]; omega) hA9 (Or.inr ⟨he1, he2, Or.inr ⟨nI_nm (by omega), hv3.2⟩⟩)
              · have hlt2 : p2 < tp := sx_lt h0 (by omega)
                have b3 : (p2 + 1) ≤ p3 ∧ ((p2 + 1) ≤ tp → p3 ≤ tp) := by have q_ := ps_b h0 _ _ _ _ _ (by decide) h3; exact ⟨q_.1, q_.2.1⟩
                refine z_callVW (pc := 37) (q0 := 0) (ci := 3) (rest := [.int (nI j), .int 124, .ref (rp 0)]) F (cC_y (ihS k' (by omega)) h3 (by omega) (by omega) (by omega) hho2) 1 ww_Reader_92 (by decide +kernel) rfl (by constructor <;> (dsimp only; omega)) ⟨Nat.le_of_ble_eq_true rfl, Nat.le_of_ble_eq_true rfl⟩ rfl rfl rfl rfl (Nat.le_of_ble_eq_true rfl) dX3_readOr_37 (fun v_ w1_ hp => ?_)
                obtain ⟨j3, G3, o3, l3, r3, rfl, rfl, hho3, hln3, hj3, hB3⟩ := hp
                show Z X (0) (0) (rdw E r (rt 0) (.ref (rp 0)) (mrd S (nI p3)) ++ tpw E rt ST ++ plw E rp (mpv SP (nI G3.length) o3 l3 r3)) [(0, .ref (r 0)), (1, .int (nI op)), (2, .int (nI j)), (3, .int (nI i))] 40 [.int (nI j3), .int (nI j), .int 124, .ref (rp 0)]
                refine z_callV (pc := 40) (q0 := 3) (ci := 2) (wr := rdw E r (rt 0) (.ref (rp 0)) (mrd S (nI p3)) ++ tpw E rt ST) (rest := []) F (c_X2_join_y l E rp (mpv SP (nI G3.length) o3 l3 r3) (G3.length) 124 (nI j) (nI j3) (by omega) rfl (by decide) (nI_nm (by omega)) (nI_nm (by omega))) 3 [3, 4, 5, 6] [0, 1, 2] rfl rfl ⟨by decide, by decide, by decide⟩ ww_Reader_95 (by decide +kernel) rfl (by constructor <;> (dsimp only; omega)) ⟨Nat.le_of_ble_eq_true rfl, Nat.le_of_ble_eq_true rfl⟩ rfl rfl rfl rfl (Nat.le_of_ble_eq_true rfl) dX3_readOr_40 (fun v_ w1_ hp => ?_)
                obtain ⟨rfl, rfl⟩ := hp
                show Z X (0) (0) (rdw E r (rt 0) (.ref (rp 0)) (mrd S (nI p3)) ++ tpw E rt ST ++ plw E rp (mpv SP (nI ((G3.length) + 1)) (upd o3 (G3.length) 124) (upd l3 (G3.length) (nI j)) (upd r3 (G3.length) (nI j3)))) [(0, .ref (r 0)), (1, .int (nI op)), (2, .int (nI j)), (3, .int (nI i))] 43 [.int (nI (G3.length))]
                refine z_istore_n (pc := 43) (lv' := [(0, .ref (r 0)), (1, .int (nI op)), (2, .int (nI (G3.length))), (3, .int (nI i))]) F dX3_readOr_43 rfl (by decide) [1, 2, 0, 3] rfl ?_
                refine z_iinc (pc := 44) (v := nI (i + 1)) (lv' := [(0, .ref (r 0)), (1, .int (nI op)), (2, .int (nI (G3.length))), (3, .int (nI (i + 1)))]) F (j := 3) dX3_readOr_44 rfl (nI_1 _) (by decide) [1, 2, 3, 0] rfl ?_
                refine z_goto (pc := 47) (tgt := 8) F dX3_readOr_47 (by decide) ?_
                subst e4; rw [show G3.length + 1 = (G3 ++ [(124, nI j, nI j3)]).length from (len_add _ _).symm]; have hA9 := hoN_add (c := 124) hho3 (c' := 124) (a := nI j) (b := nI j3) rfl; exact ih8 (i + 1) (nI G3.length) p3 (G3 ++ [(124, nI j, nI j3)]) _ _ _ (by omega) (by omega) (by omega) (by rw [len_add]; omega) hA9 (Or.inl ⟨G3.length, k', c0 ++ (c3 ++ [(20, 0)]), R5, rfl, by rw [len_add]; omega, by omega, h5, he1, he2, (by rw [List.append_assoc]; exact he3), BL_bin hB hB3 (by decide)⟩)
            · skip
              refine z_callVW (pc := 22) (q0 := 0) (ci := 3) (rest := []) F (c_X3_pass_n l E r rt rp S ST (mpv SP (nI G2.length) o2 l2 r2) tp sx p2 124 ht hp2 (by decide) kx) 1 ww_Reader_32 (by decide +kernel) rfl (by constructor <;> (dsimp only; omega)) ⟨Nat.le_of_ble_eq_true rfl, Nat.le_of_ble_eq_true rfl⟩ rfl rfl rfl rfl (Nat.le_of_ble_eq_true rfl) dX3_readOr_22 (fun v_ w1_ hp => ?_)
              obtain ⟨rfl, rfl⟩ := hp
              show Z X (0) (0) (rdw E r (rt 0) (.ref (rp 0)) (mrd S (nI p2)) ++ tpw E rt ST ++ plw E rp (mpv SP (nI G2.length) o2 l2 r2)) [(0, .ref (r 0)), (1, .int (nI op)), (2, .int (nI j)), (3, .int (nI i))] 25 [.int (bI false)]
              rw [show (bI false) = 0 from rfl]
              refine z_if_eq (pc := 25) (tgt := 50) F dX3_readOr_25 (by decide) (fun _ => ?_) (fun h => absurd h (by decide))
              refine z_iload_n (pc := 50) F dX3_readOr_50 rfl 2 rfl ?_
              exact z_iret (pc := 51) F hR dX3_readOr_51 (Nat.le_of_ble_eq_true rfl) (Nat.le_of_ble_eq_true rfl) (by have e4 := ps_1n hl (by omega); subst e4; exact ce_y he1 he2 he3 hho2 hln2 rfl hj (BLc hB))
        · skip
          refine z_iload_n (pc := 8) F dX3_readOr_8 rfl 3 rfl ?_
          rcases hv with hv | hv
          · subst hv
            refine z_bipush (pc := 9) (v := 80) F dX3_readOr_9 (by decide) ?_
            refine z_icmp_ge (pc := 11) (tgt := 50) F dX3_readOr_11 (by decide) (fun c11 => ?_) (fun c11 => ?_)
            · have hi80 := gI (a := 80) (by decide) (by omega) c11
              have hz2 : sx p2 = 0 := h0 p2 (by omega)
              refine z_iload_n (pc := 50) F dX3_readOr_50 rfl 2 rfl ?_
              exact z_iret (pc := 51) F hR dX3_readOr_51 (Nat.le_of_ble_eq_true rfl) (Nat.le_of_ble_eq_true rfl) (ce_n he1 he2 hho2 hln2 (Or.inl rfl))
            · have hi80 := ngI (a := 80) (by decide) (by omega) c11
              refine z_iload_n (pc := 14) F dX3_readOr_14 rfl 2 rfl ?_
              refine z_iconst (pc := 15) (v := (-1)) F dX3_readOr_15 (by decide) ?_
              refine z_icmp_eq (pc := 16) (tgt := 50) F dX3_readOr_16 (by decide) (fun _ => ?_) (fun h => absurd h (by decide))
              refine z_iload_n (pc := 50) F dX3_readOr_50 rfl 2 rfl ?_
              exact z_iret (pc := 51) F hR dX3_readOr_51 (Nat.le_of_ble_eq_true rfl) (Nat.le_of_ble_eq_true rfl) (ce_n he1 he2 hho2 hln2 (Or.inl rfl))
          · skip
            refine z_bipush (pc := 9) (v := 80) F dX3_readOr_9 (by decide) ?_
            refine z_icmp_ge (pc := 11) (tgt := 50) F dX3_readOr_11 (by decide) (fun c11 => ?_) (fun c11 => ?_)
            · have hi80 := gI (a := 80) (by decide) (by omega) c11
              have hz2 : sx p2 = 0 := h0 p2 (by omega)
              refine z_iload_n (pc := 50) F dX3_readOr_50 rfl 2 rfl ?_
              exact z_iret (pc := 51) F hR dX3_readOr_51 (Nat.le_of_ble_eq_true rfl) (Nat.le_of_ble_eq_true rfl) (ce_n he1 he2 hho2 hln2 (Or.inr hv))
            · have hi80 := ngI (a := 80) (by decide) (by omega) c11
              refine z_iload_n (pc := 14) F dX3_readOr_14 rfl 2 rfl ?_
              refine z_iconst (pc := 15) (v := (-1)) F dX3_readOr_15 (by decide) ?_
              refine z_icmp_eq (pc := 16) (tgt := 50) F dX3_readOr_16 (by decide) (fun c16 => absurd c16 hv.1) (fun c16 => ?_)
              refine z_aload_n (pc := 19) F dX3_readOr_19 rfl 0 rfl ?_
              refine z_bipush (pc := 20) (v := 124) F dX3_readOr_20 (by decide) ?_
              have kx : ¬ sx p2 = 124 := isD_ne hv.2 (by decide)
              · skip
                refine z_callVW (pc := 22) (q0 := 0) (ci := 3) (rest := []) F (c_X3_pass_n l E r rt rp S ST (mpv SP (nI G2.length) o2 l2 r2) tp sx p2 124 ht hp2 (by decide) kx) 1 ww_Reader_32 (by decide +kernel) rfl (by constructor <;> (dsimp only; omega)) ⟨Nat.le_of_ble_eq_true rfl, Nat.le_of_ble_eq_true rfl⟩ rfl rfl rfl rfl (Nat.le_of_ble_eq_true rfl) dX3_readOr_22 (fun v_ w1_ hp => ?_)
                obtain ⟨rfl, rfl⟩ := hp
                show Z X (0) (0) (rdw E r (rt 0) (.ref (rp 0)) (mrd S (nI p2)) ++ tpw E rt ST ++ plw E rp (mpv SP (nI G2.length) o2 l2 r2)) [(0, .ref (r 0)), (1, .int (nI op)), (2, .int all), (3, .int (nI i))] 25 [.int (bI false)]
                rw [show (bI false) = 0 from rfl]
                refine z_if_eq (pc := 25) (tgt := 50) F dX3_readOr_25 (by decide) (fun _ => ?_) (fun h => absurd h (by decide))
                refine z_iload_n (pc := 50) F dX3_readOr_50 rfl 2 rfl ?_
                exact z_iret (pc := 51) F hR dX3_readOr_51 (Nat.le_of_ble_eq_true rfl) (Nat.le_of_ble_eq_true rfl) (ce_n he1 he2 hho2 hln2 (Or.inr hv))
    exact L8 _ 0 (nI j1) p1 G1 o1_ l1_ r1_ (Nat.lt_succ_self _) (Nat.zero_le _) (by omega) hln1 hho1 (Or.inl ⟨j1, n', c1, R2, rfl, hj1, Nat.le_refl _, h2, rfl, rfl, rfl, hB1⟩)
set_option maxHeartbeats 4000000 in
set_option maxRecDepth 100000 in
theorem c_X3_readAnd_p (l : Launch) (E : zE) (r : Nat → Nat) (rt : Nat → Nat) (rp : Nat → Nat) (S : zS) (ST : zS) (SP : zS) (tp : Nat) (sx : Nat → Nat) (n : Nat) (p : Nat) (op : Nat) (G : List zNd) (o1 : Nat → Int32) (l1 : Nat → Int32) (r1 : Nat → Int32) (R : zRs) (ht : tpC ST tp sx) (ihS : ∀ m : Nat, m < n → cC l E r rt rp S ST SP tp sx yX3_readTest cX3_readTest 4 (fun p op R => ps sx m 4 p op = some R) m) (hH : ps sx n 2 p op = some R) (hp : p ≤ tp) (hN : G.length ≤ p) (hop : op ≤ 12) (hho : hoN G o1 l1 r1) : Ct l yX3_readAnd cX3_readAnd 4 (some .int) (prc n) E (rdw E r (rt 0) (.ref (rp 0)) (mrd S (nI p)) ++ tpw E rt ST ++ plw E rp (mpv SP (nI G.length) o1 l1 r1)) [.ref (r 0), .int (nI op)] (fun v_ w_ => ∃ v : Int32, ∃ G' : List zNd, ∃ o' : Nat → Int32, ∃ l' : Nat → Int32, ∃ r' : Nat → Int32, v_ = some (.int v) ∧ w_ = rdw E r (rt 0) (.ref (rp 0)) (mrd S (nI R.2.1)) ++ tpw E rt ST ++ plw E rp (mpv SP (nI G'.length) o' l' r') ∧ (hoN G' o' l' r') ∧ (cFin sx G p R v G')) := by
  refine Ct.of (by decide) (Nat.le_of_ble_eq_true rfl) (lv := [(0, .ref (r 0)), (1, .int (nI op))]) rfl ?_
  intro X F hR
  have F : zF X l (prc n) E cX3_readAnd 4 "LiveQueries$Reader" := F
  have htp := ht.2.1
  have hsx := ht.2.2.2.2
  have h0 := ht.2.2.2.1
  obtain ⟨n', rfl⟩ : ∃ n', n = n' + 1 := by cases n with | zero => cases hH | succ n' => exact ⟨n', rfl⟩
  obtain ⟨p1, c1, hh⟩ := ps_two (sx := sx) (r1 := ps sx n' 4 p op) (g := fun p => ps sx n' 3 p op) hH
  rcases hh with ⟨h1, rfl⟩ | ⟨h1, R2, h2, rfl⟩
  · have b1 : p ≤ p1 ∧ (p ≤ tp → p1 ≤ tp) := by have q_ := ps_b h0 _ _ _ _ _ (by decide) h1; exact ⟨q_.1, q_.2.1⟩
    refine z_aload_n (pc := 0) F dX3_readAnd_0 rfl 0 rfl ?_
    refine z_iload_n (pc := 1) F dX3_readAnd_1 rfl 1 rfl ?_
    refine z_callVW (pc := 2) (q0 := 0) (ci := 3) (rest := []) F (cC_n (ihS n' (by omega)) h1 hp hN hop hho) 1 ww_Reader_99 (by decide +kernel) rfl (by constructor <;> (dsimp only; omega)) ⟨Nat.le_of_ble_eq_true rfl, Nat.le_of_ble_eq_true rfl⟩ rfl rfl rfl rfl (Nat.le_of_ble_eq_true rfl) dX3_readAnd_2 (fun v_ w1_ hp => ?_)
    obtain ⟨v1, G1, o1_, l1_, r1_, rfl, rfl, hho1, hln1, hv1⟩ := hp
    show Z X (0) (0) (rdw E r (rt 0) (.ref (rp 0)) (mrd S (nI p1)) ++ tpw E rt ST ++ plw E rp (mpv SP (nI G1.length) o1_ l1_ r1_)) [(0, .ref (r 0)), (1, .int (nI op))] 5 [.int v1]
    refine z_istore_n (pc := 5) (lv' := [(0, .ref (r 0)), (1, .int (nI op)), (2, .int v1)]) F dX3_readAnd_5 rfl (by decide) [1, 2, 0] rfl ?_
    refine z_iconst (pc := 6) (v := 0) F dX3_readAnd_6 (by decide) ?_
    refine z_istore_n (pc := 7) (lv' := [(0, .ref (r 0)), (1, .int (nI op)), (2, .int v1), (3, .int 0)]) F dX3_readAnd_7 rfl (by decide) [1, 2, 3, 0] rfl ?_
    have L8 : ∀ (N : Nat) (i : Nat) (all : Int32) (p2 : Nat) (G2 : List zNd) (o2 : Nat → Int32) (l2 : Nat → Int32) (r2 : Nat → Int32), (81 - i) < N → (i ≤ p2) → (p2 ≤ tp) → (G2.length + p ≤ G.length + p2) → (hoN G2 o2 l2 r2) → (cLp sx 3 op n' G G2 p2 all (false, p1, c1)) → Z X (0) (0) (rdw E r (rt 0) (.ref (rp 0)) (mrd S (nI p2)) ++ tpw E rt ST ++ plw E rp (mpv SP (nI G2.length) o2 l2 r2)) [(0, .ref (r 0)), (1, .int (nI op)), (2, .int all), (3, .int (nI i))] 8 [] := by
      intro N
      induction N with
      | zero => intro i all p2 G2 o2 l2 r2 hN; exact absurd hN (Nat.not_lt_zero _)
      | succ N ih8 =>
        intro i all p2 G2 o2 l2 r2 hN hi hp2 hln2 hho2 hD
        rcases hD with ⟨j, k, c0, R4, rfl, hj, hk, hl, he1, he2, he3, hB⟩ | ⟨he1, he2, hv⟩
        · obtain ⟨k', rfl⟩ : ∃ k', k = k' + 1 := by cases k with | zero => cases hl | succ k' => exact ⟨k', rfl⟩
          refine z_iload_n (pc := 8) F dX3_readAnd_8 rfl 3 rfl ?_
          refine z_bipush (pc := 9) (v := 80) F dX3_readAnd_9 (by decide) ?_
          refine z_icmp_ge (pc := 11) (tgt := 50) F dX3_readAnd_11 (by decide) (fun c11 => ?_) (fun c11 => ?_)
          · have hi80 := gI (a := 80) (by decide) (by omega) c11
            have hz2 : sx p2 = 0 := h0 p2 (by omega)
            refine z_iload_n (pc := 50) F dX3_readAnd_50 rfl 2 rfl ?_
            exact z_iret (pc := 51) F hR dX3_readAnd_51 (Nat.le_of_ble_eq_true rfl) (Nat.le_of_ble_eq_true rfl) (by have e4 := ps_3n hl (by omega); subst e4; exact ce_y he1 he2 he3 hho2 hln2 rfl hj (BLc hB))
          · have hi80 := ngI (a := 80) (by decide) (by omega) c11
            refine z_iload_n (pc := 14) F dX3_readAnd_14 rfl 2 rfl ?_
            refine z_iconst (pc := 15) (v := (-1)) F dX3_readAnd_15 (by decide) ?_
            refine z_icmp_eq (pc := 16) (tgt := 50) F dX3_readAnd_16 (by decide) (fun c16 => absurd c16 (nI_nm (by omega))) (fun c16 => ?_)
            refine z_aload_n (pc := 19) F dX3_readAnd_19 rfl 0 rfl ?_
            refine z_bipush (pc := 20) (v := 38) F dX3_readAnd_20 (by decide) ?_
            rcases Classical.em (sx p2 = 38) with kx | kx
            · skip
              refine z_callVW (pc := 22) (q0 := 0) (ci := 3) (rest := []) F (c_X3_pass_y l E r rt rp S ST (mpv SP (nI G2.length) o2 l2 r2) tp sx p2 38 ht hp2 (by decide) kx) 1 ww_Reader_32 (by decide +kernel) rfl (by constructor <;> (dsimp only; omega)) ⟨Nat.le_of_ble_eq_true rfl, Nat.le_of_ble_eq_true rfl⟩ rfl rfl rfl rfl (Nat.le_of_ble_eq_true rfl) dX3_readAnd_22 (fun v_ w1_ hp => ?_)
              obtain ⟨rfl, rfl⟩ := hp
              show Z X (0) (0) (rdw E r (rt 0) (.ref (rp 0)) (mrd S (nI (p2 + 1))) ++ tpw E rt ST ++ plw E rp (mpv SP (nI G2.length) o2 l2 r2)) [(0, .ref (r 0)), (1, .int (nI op)), (2, .int (nI j)), (3, .int (nI i))] 25 [.int (bI true)]
              rw [show (bI true) = 1 from rfl]
              refine z_if_eq (pc := 25) (tgt := 50) F dX3_readAnd_25 (by decide) (fun h => absurd h (by decide)) (fun _ => ?_)
              refine z_aload_n (pc := 28) F dX3_readAnd_28 rfl 0 rfl ?_
              refine z_get (pc := 29) (v := .ref (rp 0)) F iX3 0 rfl rfl 1 (by decide) tw_148 rfl dX3_readAnd_29 ?_
              refine z_bipush (pc := 32) (v := 38) F dX3_readAnd_32 (by decide) ?_
              refine z_iload_n (pc := 34) F dX3_readAnd_34 rfl 2 rfl ?_
              refine z_aload_n (pc := 35) F dX3_readAnd_35 rfl 0 rfl ?_
              refine z_iload_n (pc := 36) F dX3_readAnd_36 rfl 1 rfl ?_
              obtain ⟨p3, c3, hh3⟩ := ps_3y hl kx; rcases hh3 with ⟨h3, e4⟩ | ⟨h3, R5, h5, e4⟩
              · have hlt2 : p2 < tp := sx_lt h0 (by omega)
                have b3 : (p2 + 1) ≤ p3 ∧ ((p2 + 1) ≤ tp → p3 ≤ tp) := by have q_ := ps_b h0 _ _ _ _ _ (by decide) h3; exact ⟨q_.1, q_.2.1⟩
                refine z_callVW (pc := 37) (q0 := 0) (ci := 3) (rest := [.int (nI j), .int 38, .ref (rp 0)]) F (cC_n (ihS k' (by omega)) h3 (by omega) (by omega) (by omega) hho2) 1 ww_Reader_99 (by decide +kernel) rfl (by constructor <;> (dsimp only; omega)) ⟨Nat.le_of_ble_eq_true rfl, Nat.le_of_ble_eq_true rfl⟩ rfl rfl rfl rfl (Nat.le_of_ble_eq_true rfl) dX3_readAnd_37 (fun v_ w1_ hp => ?_)
                obtain ⟨v3, G3, o3, l3, r3, rfl, rfl, hho3, hln3, hv3⟩ := hp
                show Z X (0) (0) (rdw E r (rt 0) (.ref (rp 0)) (mrd S (nI p3)) ++ tpw E rt ST ++ plw E rp (mpv SP (nI G3.length) o3 l3 r3)) [(0, .ref (r 0)), (1, .int (nI op)), (2, .int (nI j)), (3, .int (nI i))] 40 [.int v3, .int (nI j), .int 38, .ref (rp 0)]
                rcases hv3 with hv3 | hv3
                · subst hv3
                  refine z_callV (pc := 40) (q0 := 3) (ci := 2) (wr := rdw E r (rt 0) (.ref (rp 0)) (mrd S (nI p3)) ++ tpw E rt ST) (rest := []) F (c_X2_join_n l E rp (mpv SP (nI G3.length) o3 l3 r3) 38 (nI j) (-1) (Or.inr rfl)) 3 [3, 4, 5, 6] [0, 1, 2] rfl rfl ⟨by decide, by decide, by decide⟩ ww_Reader_95 (by decide +kernel) rfl (by constructor <;> (dsimp only; omega)) ⟨Nat.le_of_ble_eq_true rfl, Nat.le_of_ble_eq_true rfl⟩ rfl rfl rfl rfl (Nat.le_of_ble_eq_true rfl) dX3_readAnd_40 (fun v_ w1_ hp => ?_)
                  obtain ⟨rfl, rfl⟩ := hp
                  show Z X (0) (0) (rdw E r (rt 0) (.ref (rp 0)) (mrd S (nI p3)) ++ tpw E rt ST ++ plw E rp (mpv SP (nI G3.length) o3 l3 r3)) [(0, .ref (r 0)), (1, .int (nI op)), (2, .int (nI j)), (3, .int (nI i))] 43 [.int (-1)]
                  refine z_istore_n (pc := 43) (lv' := [(0, .ref (r 0)), (1, .int (nI op)), (2, .int (-1)), (3, .int (nI i))]) F dX3_readAnd_43 rfl (by decide) [1, 2, 0, 3] rfl ?_
                  refine z_iinc (pc := 44) (v := nI (i + 1)) (lv' := [(0, .ref (r 0)), (1, .int (nI op)), (2, .int (-1)), (3, .int (nI (i + 1)))]) F (j := 3) dX3_readAnd_44 rfl (nI_1 _) (by decide) [1, 2, 3, 0] rfl ?_
                  refine z_goto (pc := 47) (tgt := 8) F dX3_readAnd_47 (by decide) ?_
                  subst e4; exact ih8 (i + 1) (-1) p3 G3 _ _ _ (by omega) (by omega) (by omega) (by omega) hho3 (Or.inr ⟨he1, he2, Or.inl rfl⟩)
                · skip
                  refine z_callV (pc := 40) (q0 := 3) (ci := 2) (wr := rdw E r (rt 0) (.ref (rp 0)) (mrd S (nI p3)) ++ tpw E rt ST) (rest := []) F (c_X2_join_y l E rp (mpv SP (nI G3.length) o3 l3 r3) (G3.length) 38 (nI j) v3 (by omega) rfl (by decide) (nI_nm (by omega)) hv3.1) 3 [3, 4, 5, 6] [0, 1, 2] rfl rfl ⟨by decide, by decide, by decide⟩ ww_Reader_95 (by decide +kernel) rfl (by constructor <;> (dsimp only; omega)) ⟨Nat.le_of_ble_eq_true rfl, Nat.le_of_ble_eq_true rfl⟩ rfl rfl rfl rfl (Nat.le_of_ble_eq_true rfl) dX3_readAnd_40 (fun v_ w1_ hp => ?_)
                  obtain ⟨rfl, rfl⟩ := hp
                  show Z X (0) (0) (rdw E r (rt 0) (.ref (rp 0)) (mrd S (nI p3)) ++ tpw E rt ST ++ plw E rp (mpv SP (nI ((G3.length) + 1)) (upd o3 (G3.length) 38) (upd l3 (G3.length) (nI j)) (upd r3 (G3.length) v3))) [(0, .ref (r 0)), (1, .int (nI op)), (2, .int (nI j)), (3, .int (nI i))] 43 [.int (nI (G3.length))]
                  refine z_istore_n (pc := 43) (lv' := [(0, .ref (r 0)), (1, .int (nI op)), (2, .int (nI (G3.length))), (3, .int (nI i))]) F dX3_readAnd_43 rfl (by decide) [1, 2, 0, 3] rfl ?_
                  refine z_iinc (pc := 44) (v := nI (i + 1)) (lv' := [(0, .ref (r 0)), (1, .int (nI op)), (2, .int (nI (G3.length))), (3, .int (nI (i + 1)))]) F (j := 3) dX3_readAnd_44 rfl (nI_1 _) (by decide) [1, 2, 3, 0] rfl ?_
                  refine z_goto (pc := 47) (tgt := 8) F dX3_readAnd_47 (by decide) ?_
                  subst e4; rw [show G3.length + 1 = (G3 ++ [(38, nI j, v3)]).length from (len_add _ _).symm]; have hA9 := hoN_add (c := 38) hho3 (c' := 38) (a := nI j) (b := v3) rfl; exact ih8 (i + 1) (nI G3.length) p3 (G3 ++ [(38, nI j, v3)]) _ _ _ (by omega) (by omega) (by omega) (by rw [len_add]; omega) hA9 (Or.inr ⟨he1, he2, Or.inr ⟨nI_nm (by omega), hv3.2⟩⟩)
              · have hlt2 : p2 < tp := sx_lt h0 (by omega)
                have b3 : (p2 + 1) ≤ p3 ∧ ((p2 + 1) ≤ tp → p3 ≤ tp) := by have q_ := ps_b h0 _ _ _ _ _ (by decide) h3; exact ⟨q_.1, q_.2.1⟩
                refine z_callVW (pc := 37) (q0 := 0) (ci := 3) (rest := [.int (nI j), .int 38, .ref (rp 0)]) F (cC_y (ihS k' (by omega)) h3 (by omega) (by omega) (by omega) hho2) 1 ww_Reader_99 (by decide +kernel) rfl (by constructor <;> (dsimp only; omega)) ⟨Nat.le_of_ble_eq_true rfl, Nat.le_of_ble_eq_true rfl⟩ rfl rfl rfl rfl (Nat.le_of_ble_eq_true rfl) dX3_readAnd_37 (fun v_ w1_ hp => ?_)
                obtain ⟨j3, G3, o3, l3, r3, rfl, rfl, hho3, hln3, hj3, hB3⟩ := hp
                show Z X (0) (0) (rdw E r (rt 0) (.ref (rp 0)) (mrd S (nI p3)) ++ tpw E rt ST ++ plw E rp (mpv SP (nI G3.length) o3 l3 r3)) [(0, .ref (r 0)), (1, .int (nI op)), (2, .int (nI j)), (3, .int (nI i))] 40 [.int (nI j3), .int (nI j), .int 38, .ref (rp 0)]
                refine z_callV (pc := 40) (q0 := 3) (ci := 2) (wr := rdw E r (rt 0) (.ref (rp 0)) (mrd S (nI p3)) ++ tpw E rt ST) (rest := []) F (c_X2_join_y l E rp (mpv SP (nI G3.length) o3 l3 r3) (G3.length) 38 (nI j) (nI j3) (by omega) rfl (by decide) (nI_nm (by omega)) (nI_nm (by omega))) 3 [3, 4, 5, 6] [0, 1, 2] rfl rfl ⟨by decide, by decide, by decide⟩ ww_Reader_95 (by decide +kernel) rfl (by constructor <;> (dsimp only; omega)) ⟨Nat.le_of_ble_eq_true rfl, Nat.le_of_ble_eq_true rfl⟩ rfl rfl rfl rfl (Nat.le_of_ble_eq_true rfl) dX3_readAnd_40 (fun v_ w1_ hp => ?_)
                obtain ⟨rfl, rfl⟩ := hp
                show Z X (0) (0) (rdw E r (rt 0) (.ref (rp 0)) (mrd S (nI p3)) ++ tpw E rt ST ++ plw E rp (mpv SP (nI ((G3.length) + 1)) (upd o3 (G3.length) 38) (upd l3 (G3.length) (nI j)) (upd r3 (G3.length) (nI j3)))) [(0, .ref (r 0)), (1, .int (nI op)), (2, .int (nI j)), (3, .int (nI i))] 43 [.int (nI (G3.length))]
                refine z_istore_n (pc := 43) (lv' := [(0, .ref (r 0)), (1, .int (nI op)), (2, .int (nI (G3.length))), (3, .int (nI i))]) F dX3_readAnd_43 rfl (by decide) [1, 2, 0, 3] rfl ?_
                refine z_iinc (pc := 44) (v := nI (i + 1)) (lv' := [(0, .ref (r 0)), (1, .int (nI op)), (2, .int (nI (G3.length))), (3, .int (nI (i + 1)))]) F (j := 3) dX3_readAnd_44 rfl (nI_1 _) (by decide) [1, 2, 3, 0] rfl ?_
                refine z_goto (pc := 47) (tgt := 8) F dX3_readAnd_47 (by decide) ?_
                subst e4; rw [show G3.length + 1 = (G3 ++ [(38, nI j, nI j3)]).length from (len_add _ _).symm]; have hA9 := hoN_add (c := 38) hho3 (c' := 38) (a := nI j) (b := nI j3) rfl; exact ih8 (i + 1) (nI G3.length) p3 (G3 ++ [(38, nI j, nI j3)]) _ _ _ (by omega) (by omega) (by omega) (by rw [len_add]; omega) hA9 (Or.inl ⟨G3.length, k', c0 ++ (c3 ++ [(19, 0)]), R5, rfl, by rw [len_add]; omega, by omega, h5, he1, he2, (by rw [List.append_assoc]; exact he3), BL_bin hB hB3 (by decide)⟩)
            · skip
              refine z_callVW (pc := 22) (q0 := 0) (ci := 3) (rest := []) F (c_X3_pass_n l E r rt rp S ST (mpv SP (nI G2.length) o2 l2 r2) tp sx p2 38 ht hp2 (by decide) kx) 1 ww_Reader_32 (by decide +kernel) rfl (by constructor <;> (dsimp only; omega)) ⟨Nat.le_of_ble_eq_true rfl, Nat.le_of_ble_eq_true rfl⟩ rfl rfl rfl rfl (Nat.le_of_ble_eq_true rfl) dX3_readAnd_22 (fun v_ w1_ hp => ?_)
              obtain ⟨rfl, rfl⟩ := hp
              show Z X (0) (0) (rdw E r (rt 0) (.ref (rp 0)) (mrd S (nI p2)) ++ tpw E rt ST ++ plw E rp (mpv SP (nI G2.length) o2 l2 r2)) [(0, .ref (r 0)), (1, .int (nI op)), (2, .int (nI j)), (3, .int (nI i))] 25 [.int (bI false)]
              rw [show (bI false) = 0 from rfl]
              refine z_if_eq (pc := 25) (tgt := 50) F dX3_readAnd_25 (by decide) (fun _ => ?_) (fun h => absurd h (by decide))
              refine z_iload_n (pc := 50) F dX3_readAnd_50 rfl 2 rfl ?_
              exact z_iret (pc := 51) F hR dX3_readAnd_51 (Nat.le_of_ble_eq_true rfl) (Nat.le_of_ble_eq_true rfl) (by have e4 := ps_3n hl (by omega); subst e4; exact ce_y he1 he2 he3 hho2 hln2 rfl hj (BLc hB))
        · skip
          refine z_iload_n (pc := 8) F dX3_readAnd_8 rfl 3 rfl ?_
          rcases hv with hv | hv
          · subst hv
            refine z_bipush (pc := 9) (v := 80) F dX3_readAnd_9 (by decide) ?_
            refine z_icmp_ge (pc := 11) (tgt := 50) F dX3_readAnd_11 (by decide) (fun c11 => ?_) (fun c11 => ?_)
            · have hi80 := gI (a := 80) (by decide) (by omega) c11
              have hz2 : sx p2 = 0 := h0 p2 (by omega)
              refine z_iload_n (pc := 50) F dX3_readAnd_50 rfl 2 rfl ?_
              exact z_iret (pc := 51) F hR dX3_readAnd_51 (Nat.le_of_ble_eq_true rfl) (Nat.le_of_ble_eq_true rfl) (ce_n he1 he2 hho2 hln2 (Or.inl rfl))
            · have hi80 := ngI (a := 80) (by decide) (by omega) c11
              refine z_iload_n (pc := 14) F dX3_readAnd_14 rfl 2 rfl ?_
              refine z_iconst (pc := 15) (v := (-1)) F dX3_readAnd_15 (by decide) ?_
              refine z_icmp_eq (pc := 16) (tgt := 50) F dX3_readAnd_16 (by decide) (fun _ => ?_) (fun h => absurd h (by decide))
              refine z_iload_n (pc := 50) F dX3_readAnd_50 rfl 2 rfl ?_
              exact z_iret (pc := 51) F hR dX3_readAnd_51 (Nat.le_of_ble_eq_true rfl) (Nat.le_of_ble_eq_true rfl) (ce_n he1 he2 hho2 hln2 (Or.inl rfl))
          · skip
            refine z_bipush (pc := 9) (v := 80) F dX3_readAnd_9 (by decide) ?_
            refine z_icmp_ge (pc := 11) (tgt := 50) F dX3_readAnd_11 (by decide) (fun c11 => ?_) (fun c11 => ?_)
            · have hi80 := gI (a := 80) (by decide) (by omega) c11
              have hz2 : sx p2 = 0 := h0 p2 (by omega)
              refine z_iload_n (pc := 50) F dX3_readAnd_50 rfl 2 rfl ?_
              exact z_iret (pc := 51) F hR dX3_readAnd_51 (Nat.le_of_ble_eq_true rfl) (Nat.le_of_ble_eq_true rfl) (ce_n he1 he2 hho2 hln2 (Or.inr hv))
            · have hi80 := ngI (a := 80) (by decide) (by omega) c11
              refine z_iload_n (pc := 14) F dX3_readAnd_14 rfl 2 rfl ?_
              refine z_iconst (pc := 15) (v := (-1)) F dX3_readAnd_15 (by decide) ?_
              refine z_icmp_eq (pc := 16) (tgt := 50) F dX3_readAnd_16 (by decide) (fun c16 => absurd c16 hv.1) (fun c16 => ?_)
              refine z_aload_n (pc := 19) F dX3_readAnd_19 rfl 0 rfl ?_
              refine z_bipush (pc := 20) (v := 38) F dX3_readAnd_20 (by decide) ?_
              have kx : ¬ sx p2 = 38 := isD_ne hv.2 (by decide)
              · skip
                refine z_callVW (pc := 22) (q0 := 0) (ci := 3) (rest := []) F (c_X3_pass_n l E r rt rp S ST (mpv SP (nI G2.length) o2 l2 r2) tp sx p2 38 ht hp2 (by decide) kx) 1 ww_Reader_32 (by decide +kernel) rfl (by constructor <;> (dsimp only; omega)) ⟨Nat.le_of_ble_eq_true rfl, Nat.le_of_ble_eq_true rfl⟩ rfl rfl rfl rfl (Nat.le_of_ble_eq_true rfl) dX3_readAnd_22 (fun v_ w1_ hp => ?_)
                obtain ⟨rfl, rfl⟩ := hp
                show Z X (0) (0) (rdw E r (rt 0) (.ref (rp 0)) (mrd S (nI p2)) ++ tpw E rt ST ++ plw E rp (mpv SP (nI G2.length) o2 l2 r2)) [(0, .ref (r 0)), (1, .int (nI op)), (2, .int all), (3, .int (nI i))] 25 [.int (bI false)]
                rw [show (bI false) = 0 from rfl]
                refine z_if_eq (pc := 25) (tgt := 50) F dX3_readAnd_25 (by decide) (fun _ => ?_) (fun h => absurd h (by decide))
                refine z_iload_n (pc := 50) F dX3_readAnd_50 rfl 2 rfl ?_
                exact z_iret (pc := 51) F hR dX3_readAnd_51 (Nat.le_of_ble_eq_true rfl) (Nat.le_of_ble_eq_true rfl) (ce_n he1 he2 hho2 hln2 (Or.inr hv))
    exact L8 _ 0 v1 p1 G1 o1_ l1_ r1_ (Nat.lt_succ_self _) (Nat.zero_le _) (by omega) hln1 hho1 (Or.inr ⟨rfl, rfl, hv1⟩)
  · have b1 : p ≤ p1 ∧ (p ≤ tp → p1 ≤ tp) := by have q_ := ps_b h0 _ _ _ _ _ (by decide) h1; exact ⟨q_.1, q_.2.1⟩
    refine z_aload_n (pc := 0) F dX3_readAnd_0 rfl 0 rfl ?_
    refine z_iload_n (pc := 1) F dX3_readAnd_1 rfl 1 rfl ?_
    refine z_callVW (pc := 2) (q0 := 0) (ci := 3) (rest := []) F (cC_y (ihS n' (by omega)) h1 hp hN hop hho) 1 ww_Reader_99 (by decide +kernel) rfl (by constructor <;> (dsimp only; omega)) ⟨Nat.le_of_ble_eq_true rfl, Nat.le_of_ble_eq_true rfl⟩ rfl rfl rfl rfl (Nat.le_of_ble_eq_true rfl) dX3_readAnd_2 (fun v_ w1_ hp => ?_)
    obtain ⟨j1, G1, o1_, l1_, r1_, rfl, rfl, hho1, hln1, hj1, hB1⟩ := hp
    show Z X (0) (0) (rdw E r (rt 0) (.ref (rp 0)) (mrd S (nI p1)) ++ tpw E rt ST ++ plw E rp (mpv SP (nI G1.length) o1_ l1_ r1_)) [(0, .ref (r 0)), (1, .int (nI op))] 5 [.int (nI j1)]
    refine z_istore_n (pc := 5) (lv' := [(0, .ref (r 0)), (1, .int (nI op)), (2, .int (nI j1))]) F dX3_readAnd_5 rfl (by decide) [1, 2, 0] rfl ?_
    refine z_iconst (pc := 6) (v := 0) F dX3_readAnd_6 (by decide) ?_
    refine z_istore_n (pc := 7) (lv' := [(0, .ref (r 0)), (1, .int (nI op)), (2, .int (nI j1)), (3, .int 0)]) F dX3_readAnd_7 rfl (by decide) [1, 2, 3, 0] rfl ?_
    have L8 : ∀ (N : Nat) (i : Nat) (all : Int32) (p2 : Nat) (G2 : List zNd) (o2 : Nat → Int32) (l2 : Nat → Int32) (r2 : Nat → Int32), (81 - i) < N → (i ≤ p2) → (p2 ≤ tp) → (G2.length + p ≤ G.length + p2) → (hoN G2 o2 l2 r2) → (cLp sx 3 op n' G G2 p2 all (R2.1, R2.2.1, c1 ++ R2.2.2)) → Z X (0) (0) (rdw E r (rt 0) (.ref (rp 0)) (mrd S (nI p2)) ++ tpw E rt ST ++ plw E rp (mpv SP (nI G2.length) o2 l2 r2)) [(0, .ref (r 0)), (1, .int (nI op)), (2, .int all), (3, .int (nI i))] 8 [] := by
      intro N
      induction N with
      | zero => intro i all p2 G2 o2 l2 r2 hN; exact absurd hN (Nat.not_lt_zero _)
      | succ N ih8 =>
        intro i all p2 G2 o2 l2 r2 hN hi hp2 hln2 hho2 hD
        rcases hD with ⟨j, k, c0, R4, rfl, hj, hk, hl, he1, he2, he3, hB⟩ | ⟨he1, he2, hv⟩
        · obtain ⟨k', rfl⟩ : ∃ k', k = k' + 1 := by cases k with | zero => cases hl | succ k' => exact ⟨k', rfl⟩
          refine z_iload_n (pc := 8) F dX3_readAnd_8 rfl 3 rfl ?_
          refine z_bipush (pc := 9) (v := 80) F dX3_readAnd_9 (by decide) ?_
          refine z_icmp_ge (pc := 11) (tgt := 50) F dX3_readAnd_11 (by decide) (fun c11 => ?_) (fun c11 => ?_)
          · have hi80 := gI (a := 80) (by decide) (by omega) c11
            have hz2 : sx p2 = 0 := h0 p2 (by omega)
            refine z_iload_n (pc := 50) F dX3_readAnd_50 rfl 2 rfl ?_
            exact z_iret (pc := 51) F hR dX3_readAnd_51 (Nat.le_of_ble_eq_true rfl) (Nat.le_of_ble_eq_true rfl) (by have e4 := ps_3n hl (by omega); subst e4; exact ce_y he1 he2 he3 hho2 hln2 rfl hj (BLc hB))
          · have hi80 := ngI (a := 80) (by decide) (by omega) c11
            refine z_iload_n (pc := 14) F dX3_readAnd_14 rfl 2 rfl ?_
            refine z_iconst (pc := 15) (v := (-1)) F dX3_readAnd_15 (by decide) ?_
            refine z_icmp_eq (pc := 16) (tgt := 50) F dX3_readAnd_16 (by decide) (fun c16 => absurd c16 (nI_nm (by omega))) (fun c16 => ?_)
            refine z_aload_n (pc := 19) F dX3_readAnd_19 rfl 0 rfl ?_
            refine z_bipush (pc := 20) (v := 38) F dX3_readAnd_20 (by decide) ?_
            rcases Classical.em (sx p2 = 38) with kx | kx
            · skip
              refine z_callVW (pc := 22) (q0 := 0) (ci := 3) (rest := []) F (c_X3_pass_y l E r rt rp S ST (mpv SP (nI G2.length) o2 l2 r2) tp sx p2 38 ht hp2 (by decide) kx) 1 ww_Reader_32 (by decide +kernel) rfl (by constructor <;> (dsimp only; omega)) ⟨Nat.le_of_ble_eq_true rfl, Nat.le_of_ble_eq_true rfl⟩ rfl rfl rfl rfl (Nat.le_of_ble_eq_true rfl) dX3_readAnd_22 (fun v_ w1_ hp => ?_)
              obtain ⟨rfl, rfl⟩ := hp
              show Z X (0) (0) (rdw E r (rt 0) (.ref (rp 0)) (mrd S (nI (p2 + 1))) ++ tpw E rt ST ++ plw E rp (mpv SP (nI G2.length) o2 l2 r2)) [(0, .ref (r 0)), (1, .int (nI op)), (2, .int (nI j)), (3, .int (nI i))] 25 [.int (bI true)]
              rw [show (bI true) = 1 from rfl]
              refine z_if_eq (pc := 25) (tgt := 50) F dX3_readAnd_25 (by decide) (fun h => absurd h (by decide)) (fun _ => ?_)
              refine z_aload_n (pc := 28) F dX3_readAnd_28 rfl 0 rfl ?_
              refine z_get (pc := 29) (v := .ref (rp 0)) F iX3 0 rfl rfl 1 (by decide) tw_148 rfl dX3_readAnd_29 ?_
              refine z_bipush (pc := 32) (v := 38) F dX3_readAnd_32 (by decide) ?_
              refine z_iload_n (pc := 34) F dX3_readAnd_34 rfl 2 rfl ?_
              refine z_aload_n (pc := 35) F dX3_readAnd_35 rfl 0 rfl ?_
              refine z_iload_n (pc := 36) F dX3_readAnd_36 rfl 1 rfl ?_
              obtain ⟨p3, c3, hh3⟩ := ps_3y hl kx; rcases hh3 with ⟨h3, e4⟩ | ⟨h3, R5, h5, e4⟩
              · have hlt2 : p2 < tp := sx_lt h0 (by omega)
                have b3 : (p2 + 1) ≤ p3 ∧ ((p2 + 1) ≤ tp → p3 ≤ tp) := by have q_ := ps_b h0 _ _ _ _ _ (by decide) h3; exact ⟨q_.1, q_.2.1⟩
                refine z_callVW (pc := 37) (q0 := 0) (ci := 3) (rest := [.int (nI j), .int 38, .ref (rp 0)]) F (cC_n (ihS k' (by omega)) h3 (by omega) (by omega) (by omega) hho2) 1 ww_Reader_99 (by decide +kernel) rfl (by constructor <;> (dsimp only; omega)) ⟨Nat.le_of_ble_eq_true rfl, Nat.le_of_ble_eq_true rfl⟩ rfl rfl rfl rfl (Nat.le_of_ble_eq_true rfl) dX3_readAnd_37 (fun v_ w1_ hp => ?_)
                obtain ⟨v3, G3, o3, l3, r3, rfl, rfl, hho3, hln3, hv3⟩ := hp
                show Z X (0) (0) (rdw E r (rt 0) (.ref (rp 0)) (mrd S (nI p3)) ++ tpw E rt ST ++ plw E rp (mpv SP (nI G3.length) o3 l3 r3)) [(0, .ref (r 0)), (1, .int (nI op)), (2, .int (nI j)), (3, .int (nI i))] 40 [.int v3, .int (nI j), .int 38, .ref (rp 0)]
                rcases hv3 with hv3 | hv3
                · subst hv3
                  refine z_callV (pc := 40) (q0 := 3) (ci := 2) (wr := rdw E r (rt 0) (.ref (rp 0)) (mrd S (nI p3)) ++ tpw E rt ST) (rest := []) F (c_X2_join_n l E rp (mpv SP (nI G3.length) o3 l3 r3) 38 (nI j) (-1) (Or.inr rfl)) 3 [3, 4, 5, 6] [0, 1, 2] rfl rfl ⟨by decide, by decide, by decide⟩ ww_Reader_95 (by decide +kernel) rfl (by constructor <;> (dsimp only; omega)) ⟨Nat.le_of_ble_eq_true rfl, Nat.le_of_ble_eq_true rfl⟩ rfl rfl rfl rfl (Nat.le_of_ble_eq_true rfl) dX3_readAnd_40 (fun v_ w1_ hp => ?_)
                  obtain ⟨rfl, rfl⟩ := hp
                  show Z X (0) (0) (rdw E r (rt 0) (.ref (rp 0)) (mrd S (nI p3)) ++ tpw E rt ST ++ plw E rp (mpv SP (nI G3.length) o3 l3 r3)) [(0, .ref (r 0)), (1, .int (nI op)), (2, .int (nI j)), (3, .int (nI i))] 43 [.int (-1)]
                  refine z_istore_n (pc := 43) (lv' := [(0, .ref (r 0)), (1, .int (nI op)), (2, .int (-1)), (3, .int (nI i))]) F dX3_readAnd_43 rfl (by decide) [1, 2, 0, 3] rfl ?_
                  refine z_iinc (pc := 44) (v := nI (i + 1)) (lv' := [(0, .ref (r 0)), (1, .int (nI op)), (2, .int (-1)), (3, .int (nI (i + 1)))]) F (j := 3) dX3_readAnd_44 rfl (nI_1 _) (by decide) [1, 2, 3, 0] rfl ?_
                  refine z_goto (pc := 47) (tgt := 8) F dX3_readAnd_47 (by decide) ?_
                  subst e4; exact ih8 (i + 1) (-1) p3 G3 _ _ _ (by omega) (by omega) (by omega) (by omega) hho3 (Or.inr ⟨he1, he2, Or.inl rfl⟩)
                · skip
                  refine z_callV (pc := 40) (q0 := 3) (ci := 2) (wr := rdw E r (rt 0) (.ref (rp 0)) (mrd S (nI p3)) ++ tpw E rt ST) (rest := []) F (c_X2_join_y l E rp (mpv SP (nI G3.length) o3 l3 r3) (G3.length) 38 (nI j) v3 (by omega) rfl (by decide) (nI_nm (by omega)) hv3.1) 3 [3, 4, 5, 6] [0, 1, 2] rfl rfl ⟨by decide, by decide, by decide⟩ ww_Reader_95 (by decide +kernel) rfl (by constructor <;> (dsimp only; omega)) ⟨Nat.le_of_ble_eq_true rfl, Nat.le_of_ble_eq_true rfl⟩ rfl rfl rfl rfl (Nat.le_of_ble_eq_true rfl) dX3_readAnd_40 (fun v_ w1_ hp => ?_)
                  obtain ⟨rfl, rfl⟩ := hp
                  show Z X (0) (0) (rdw E r (rt 0) (.ref (rp 0)) (mrd S (nI p3)) ++ tpw E rt ST ++ plw E rp (mpv SP (nI ((G3.length) + 1)) (upd o3 (G3.length) 38) (upd l3 (G3.length) (nI j)) (upd r3 (G3.length) v3))) [(0, .ref (r 0)), (1, .int (nI op)), (2, .int (nI j)), (3, .int (nI i))] 43 [.int (nI (G3.length))]
                  refine z_istore_n (pc := 43) (lv' := [(0, .ref (r 0)), (1, .int (nI op)), (2, .int (nI (G3.length))), (3, .int (nI i))]) F dX3_readAnd_43 rfl (by decide) [1, 2, 0, 3] rfl ?_
                  refine z_iinc (pc := 44) (v := nI (i + 1)) (lv' := [(0, .ref (r 0)), (1, .int (nI op)), (2, .int (nI (G3.length))), (3, .int (nI (i + 1)))]) F (j := 3) dX3_readAnd_44 rfl (nI_1 _) (by decide) [1, 2, 3, 0] rfl ?_
                  refine z_goto (pc := 47) (tgt := 8) F dX3_readAnd_47 (by decide) ?_
                  subst e4; rw [show G3.length + 1 = (G3 ++ [(38, nI j, v3)]).length from (len_add _ _).symm]; have hA9 := hoN_add (c := 38) hho3 (c' := 38) (a := nI j) (b := v3) rfl; exact ih8 (i + 1) (nI G3.length) p3 (G3 ++ [(38, nI j, v3)]) _ _ _ (by omega) (by omega) (by omega) (by rw [len_add]; omega) hA9 (Or.inr ⟨he1, he2, Or.inr ⟨nI_nm (by omega), hv3.2⟩⟩)
              · have hlt2 : p2 < tp := sx_lt h0 (by omega)
                have b3 : (p2 + 1) ≤ p3 ∧ ((p2 + 1) ≤ tp → p3 ≤ tp) := by have q_ := ps_b h0 _ _ _ _ _ (by decide) h3; exact ⟨q_.1, q_.2.1⟩
                refine z_callVW (pc := 37) (q0 := 0) (ci := 3) (rest := [.int (nI j), .int 38, .ref (rp 0)]) F (cC_y (ihS k' (by omega)) h3 (by omega) (by omega) (by omega) hho2) 1 ww_Reader_99 (by decide +kernel) rfl (by constructor <;> (dsimp only; omega)) ⟨Nat.le_of_ble_eq_true rfl, Nat.le_of_ble_eq_true rfl⟩ rfl rfl rfl rfl (Nat.le_of_ble_eq_true rfl) dX3_readAnd_37 (fun v_ w1_ hp => ?_)
                obtain ⟨j3, G3, o3, l3, r3, rfl, rfl, hho3, hln3, hj3, hB3⟩ := hp
                show Z X (0) (0) (rdw E r (rt 0) (.ref (rp 0)) (mrd S (nI p3)) ++ tpw E rt ST ++ plw E rp (mpv SP (nI G3.length) o3 l3 r3)) [(0, .ref (r 0)), (1, .int (nI op)), (2, .int (nI j)), (3, .int (nI i))] 40 [.int (nI j3), .int (nI j), .int 38, .ref (rp 0)]
                refine z_callV (pc := 40) (q0 := 3) (ci := 2) (wr := rdw E r (rt 0) (.ref (rp 0)) (mrd S (nI p3)) ++ tpw E rt ST) (rest := []) F (c_X2_join_y l E rp (mpv SP (nI G3.length) o3 l3 r3) (G3.length) 38 (nI j) (nI j3) (by omega) rfl (by decide) (nI_nm (by omega)) (nI_nm (by omega))) 3 [3, 4, 5, 6] [0, 1, 2] rfl rfl ⟨by decide, by decide, by decide⟩ ww_Reader_95 (by decide +kernel) rfl (by constructor <;> (dsimp only; omega)) ⟨Nat.le_of_ble_eq_true rfl, Nat.le_of_ble_eq_true rfl⟩ rfl rfl rfl rfl (Nat.le_of_ble_eq_true rfl) dX3_readAnd_40 (fun v_ w1_ hp => ?_)
                obtain ⟨rfl, rfl⟩ := hp
                show Z X (0) (0) (rdw E r (rt 0) (.ref (rp 0)) (mrd S (nI p3)) ++ tpw E rt ST ++ plw E rp (mpv SP (nI ((G3.length) + 1)) (upd o3 (G3.length) 38) (upd l3 (G3.length) (nI j)) (upd r3 (G3.length) (nI j3)))) [(0, .ref (r 0)), (1, .int (nI op)), (2, .int (nI j)), (3, .int (nI i))] 43 [.int (nI (G3.length))]
                refine z_istore_n (pc := 43) (lv' := [(0, .ref (r 0)), (1, .int (nI op)), (2, .int (nI (G3.length))), (3, .int (nI i))]) F dX3_readAnd_43 rfl (by decide) [1, 2, 0, 3] rfl ?_
                refine z_iinc (pc := 44) (v := nI (i + 1)) (lv' := [(0, .ref (r 0)), (1, .int (nI op)), (2, .int (nI (G3.length))), (3, .int (nI (i + 1)))]) F (j := 3) dX3_readAnd_44 rfl (nI_1 _) (by decide) [1, 2, 3, 0] rfl ?_
                refine z_goto (pc := 47) (tgt := 8) F dX3_readAnd_47 (by decide) ?_
                subst e4; rw [show G3.length + 1 = (G3 ++ [(38, nI j, nI j3)]).length from (len_add _ _).symm]; have hA9 := hoN_add (c := 38) hho3 (c' := 38) (a := nI j) (b := nI j3) rfl; exact ih8 (i + 1) (nI G3.length) p3 (G3 ++ [(38, nI j, nI j3)]) _ _ _ (by omega) (by omega) (by omega) (by rw [len_add]; omega) hA9 (Or.inl ⟨G3.length, k', c0 ++ (c3 ++ [(19, 0)]), R5, rfl, by rw [len_add]; omega, by omega, h5, he1, he2, (by rw [List.append_assoc]; exact he3), BL_bin hB hB3 (by decide)⟩)
            · skip
              refine z_callVW (pc := 22) (q0 := 0) (ci := 3) (rest := []) F (c_X3_pass_n l E r rt rp S ST (mpv SP (nI G2.length) o2 l2 r2) tp sx p2 38 ht hp2 (by decide) kx) 1 ww_Reader_32 (by decide +kernel) rfl (by constructor <;> (dsimp only; omega)) ⟨Nat.le_of_ble_eq_true rfl, Nat.le_of_ble_eq_true rfl⟩ rfl rfl rfl rfl (Nat.le_of_ble_eq_true rfl) dX3_readAnd_22 (fun v_ w1_ hp => ?_)
              obtain ⟨rfl, rfl⟩ := hp
              show Z X (0) (0) (rdw E r (rt 0) (.ref (rp 0)) (mrd S (nI p2)) ++ tpw E rt ST ++ plw E rp (mpv SP (nI G2.length) o2 l2 r2)) [(0, .ref (r 0)), (1, .int (nI op)), (2, .int (nI j)), (3, .int (nI i))] 25 [.int (bI false)]
              rw [show (bI false) = 0 from rfl]
              refine z_if_eq (pc := 25) (tgt := 50) F dX3_readAnd_25 (by decide) (fun _ => ?_) (fun h => absurd h (by decide))
              refine z_iload_n (pc := 50) F dX3_readAnd_50 rfl 2 rfl ?_
              exact z_iret (pc := 51) F hR dX3_readAnd_51 (Nat.le_of_ble_eq_true rfl) (Nat.le_of_ble_eq_true rfl) (by have e4 := ps_3n hl (by omega); subst e4; exact ce_y he1 he2 he3 hho2 hln2 rfl hj (BLc hB))
        · skip
          refine z_iload_n (pc := 8) F dX3_readAnd_8 rfl 3 rfl ?_
          rcases hv with hv | hv
          · subst hv
            refine z_bipush (pc := 9) (v := 80) F dX3_readAnd_9 (by decide) ?_
            refine z_icmp_ge (pc := 11) (tgt := 50) F dX3_readAnd_11 (by decide) (fun c11 => ?_) (fun c11 => ?_)
            · have hi80 := gI (a := 80) (by decide) (by omega) c11
              have hz2 : sx p2 = 0 := h0 p2 (by omega)
              refine z_iload_n (pc := 50) F dX3_readAnd_50 rfl 2 rfl ?_
              exact z_iret (pc := 51) F hR dX3_readAnd_51 (Nat.le_of_ble_eq_true rfl) (Nat.le_of_ble_eq_true rfl) (ce_n he1 he2 hho2 hln2 (Or.inl rfl))
            · have hi80 := ngI (a := 80) (by decide) (by omega) c11
              refine z_iload_n (pc := 14) F dX3_readAnd_14 rfl 2 rfl ?_
              refine z_iconst (pc := 15) (v := (-1)) F dX3_readAnd_15 (by decide) ?_
              refine z_icmp_eq (pc := 16) (tgt := 50) F dX3_readAnd_16 (by decide) (fun _ => ?_) (fun h => absurd h (by decide))
              refine z_iload_n (pc := 50) F dX3_readAnd_50 rfl 2 rfl ?_
              exact z_iret (pc := 51) F hR dX3_readAnd_51 (Nat.le_of_ble_eq_true rfl) (Nat.le_of_ble_eq_true rfl) (ce_n he1 he2 hho2 hln2 (Or.inl rfl))
          · skip
            refine z_bipush (pc := 9) (v := 80) F dX3_readAnd_9 (by decide) ?_
            refine z_icmp_ge (pc := 11) (tgt := 50) F dX3_readAnd_11 (by decide) (fun c11 => ?_) (fun c11 => ?_)
            · have hi80 := gI (a := 80) (by decide) (by omega) c11
              have hz2 : sx p2 = 0 := h0 p2 (by omega)
              refine z_iload_n (pc := 50) F dX3_readAnd_50 rfl 2 rfl ?_
              exact z_iret (pc := 51) F hR dX3_readAnd_51 (Nat.le_of_ble_eq_true rfl) (Nat.le_of_ble_eq_true rfl) (ce_n he1 he2 hho2 hln2 (Or.inr hv))
            · have hi80 := ngI (a := 80) (by decide) (by omega) c11
              refine z_iload_n (pc := 14) F dX3_readAnd_14 rfl 2 rfl ?_
              refine z_iconst (pc := 15) (v := (-1)) F dX3_readAnd_15 (by decide) ?_
              refine z_icmp_eq (pc := 16) (tgt := 50) F dX3_readAnd_16 (by decide) (fun c16 => absurd c16 hv.1) (fun c16 => ?_)
              refine z_aload_n (pc := 19) F dX3_readAnd_19 rfl 0 rfl ?_
              refine z_bipush (pc := 20) (v := 38) F dX3_readAnd_20 (by decide) ?_
              have kx : ¬ sx p2 = 38 := isD_ne hv.2 (by decide)
              · skip
                refine z_callVW (pc := 22) (q0 := 0) (ci := 3) (rest := []) F (c_X3_pass_n l E r rt rp S ST (mpv SP (nI G2.length) o2 l2 r2) tp sx p2 38 ht hp2 (by decide) kx) 1 ww_Reader_32 (by decide +kernel) rfl (by constructor <;> (dsimp only; omega)) ⟨Nat.le_of_ble_eq_true rfl, Nat.le_of_ble_eq_true rfl⟩ rfl rfl rfl rfl (Nat.le_of_ble_eq_true rfl) dX3_readAnd_22 (fun v_ w1_ hp => ?_)
                obtain ⟨rfl, rfl⟩ := hp
                show Z X (0) (0) (rdw E r (rt 0) (.ref (rp 0)) (mrd S (nI p2)) ++ tpw E rt ST ++ plw E rp (mpv SP (nI G2.length) o2 l2 r2)) [(0, .ref (r 0)), (1, .int (nI op)), (2, .int all), (3, .int (nI i))] 25 [.int (bI false)]
                rw [show (bI false) = 0 from rfl]
                refine z_if_eq (pc := 25) (tgt := 50) F dX3_readAnd_25 (by decide) (fun _ => ?_) (fun h => absurd h (by decide))
                refine z_iload_n (pc := 50) F dX3_readAnd_50 rfl 2 rfl ?_
                exact z_iret (pc := 51) F hR dX3_readAnd_51 (Nat.le_of_ble_eq_true rfl) (Nat.le_of_ble_eq_true rfl) (ce_n he1 he2 hho2 hln2 (Or.inr hv))
    exact L8 _ 0 (nI j1) p1 G1 o1_ l1_ r1_ (Nat.lt_succ_self _) (Nat.zero_le _) (by omega) hln1 hho1 (Or.inl ⟨j1, n', c1, R2, rfl, hj1, Nat.le_refl _, h2, rfl, rfl, rfl, hB1⟩)
set_option maxHeartbeats 4000000 in
set_option maxRecDepth 100000 in
theorem c_X3_readX_p (l : Launch) (E : zE) (r : Nat → Nat) (rt : Nat → Nat) (rp : Nat → Nat) (S : zS) (ST : zS) (SP : zS) (tp : Nat) (sx : Nat → Nat) (n : Nat) (p : Nat) (op : Nat) (G : List zNd) (o1 : Nat → Int32) (l1 : Nat → Int32) (r1 : Nat → Int32) (R : zRs) (ht : tpC ST tp sx) (ihS : ∀ m : Nat, m < n → cC l E r rt rp S ST SP tp sx yX3_readTerm cX3_readTerm 5 (fun p op R => ps sx m 7 p op = some R) m) (hH : ps sx n 5 p op = some R) (hp : p ≤ tp) (hN : G.length ≤ p) (hop : op ≤ 12) (hho : hoN G o1 l1 r1) : Ct l yX3_readX cX3_readX 5 (some .int) (prc n) E (rdw E r (rt 0) (.ref (rp 0)) (mrd S (nI p)) ++ tpw E rt ST ++ plw E rp (mpv SP (nI G.length) o1 l1 r1)) [.ref (r 0), .int (nI op)] (fun v_ w_ => ∃ v : Int32, ∃ G' : List zNd, ∃ o' : Nat → Int32, ∃ l' : Nat → Int32, ∃ r' : Nat → Int32, v_ = some (.int v) ∧ w_ = rdw E r (rt 0) (.ref (rp 0)) (mrd S (nI R.2.1)) ++ tpw E rt ST ++ plw E rp (mpv SP (nI G'.length) o' l' r') ∧ (hoN G' o' l' r') ∧ (cFin sx G p R v G')) := by
  refine Ct.of (by decide) (Nat.le_of_ble_eq_true rfl) (lv := [(0, .ref (r 0)), (1, .int (nI op))]) rfl ?_
  intro X F hR
  have F : zF X l (prc n) E cX3_readX 5 "LiveQueries$Reader" := F
  have htp := ht.2.1
  have hsx := ht.2.2.2.2
  have h0 := ht.2.2.2.1
  obtain ⟨n', rfl⟩ : ∃ n', n = n' + 1 := by cases n with | zero => cases hH | succ n' => exact ⟨n', rfl⟩
  obtain ⟨p1, c1, hh⟩ := ps_two (sx := sx) (r1 := ps sx n' 7 p op) (g := fun p => ps sx n' 6 p op) hH
  rcases hh with ⟨h1, rfl⟩ | ⟨h1, R2, h2, rfl⟩
  · have b1 : p ≤ p1 ∧ (p ≤ tp → p1 ≤ tp) := by have q_ := ps_b h0 _ _ _ _ _ (by decide) h1; exact ⟨q_.1, q_.2.1⟩
    refine z_aload_n (pc := 0) F dX3_readX_0 rfl 0 rfl ?_
    refine z_iload_n (pc := 1) F dX3_readX_1 rfl 1 rfl ?_
    refine z_callVW (pc := 2) (q0 := 0) (ci := 3) (rest := []) F (cC_n (ihS n' (by omega)) h1 hp hN hop hho) 1 ww_Reader_105 (by decide +kernel) rfl (by constructor <;> (dsimp only; omega)) ⟨Nat.le_of_ble_eq_true rfl, Nat.le_of_ble_eq_true rfl⟩ rfl rfl rfl rfl (Nat.le_of_ble_eq_true rfl) dX3_readX_2 (fun v_ w1_ hp => ?_)
    obtain ⟨v1, G1, o1_, l1_, r1_, rfl, rfl, hho1, hln1, hv1⟩ := hp
    show Z X (0) (0) (rdw E r (rt 0) (.ref (rp 0)) (mrd S (nI p1)) ++ tpw E rt ST ++ plw E rp (mpv SP (nI G1.length) o1_ l1_ r1_)) [(0, .ref (r 0)), (1, .int (nI op))] 5 [.int v1]
    refine z_istore_n (pc := 5) (lv' := [(0, .ref (r 0)), (1, .int (nI op)), (2, .int v1)]) F dX3_readX_5 rfl (by decide) [1, 2, 0] rfl ?_
    refine z_iconst (pc := 6) (v := 0) F dX3_readX_6 (by decide) ?_
    refine z_istore_n (pc := 7) (lv' := [(0, .ref (r 0)), (1, .int (nI op)), (2, .int v1), (3, .int 0)]) F dX3_readX_7 rfl (by decide) [1, 2, 3, 0] rfl ?_
    have L8 : ∀ (N : Nat) (i : Nat) (all : Int32) (p2 : Nat) (G2 : List zNd) (o2 : Nat → Int32) (l2 : Nat → Int32) (r2 : Nat → Int32), (81 - i) < N → (i ≤ p2) → (p2 ≤ tp) → (G2.length + p ≤ G.length + p2) → (hoN G2 o2 l2 r2) → (cLp sx 6 op n' G G2 p2 all (false, p1, c1)) → Z X (0) (0) (rdw E r (rt 0) (.ref (rp 0)) (mrd S (nI p2)) ++ tpw E rt ST ++ plw E rp (mpv SP (nI G2.length) o2 l2 r2)) [(0, .ref (r 0)), (1, .int (nI op)), (2, .int all), (3, .int (nI i))] 8 [] := by
      intro N
      induction N with
      | zero => intro i all p2 G2 o2 l2 r2 hN; exact absurd hN (Nat.not_lt_zero _)
      | succ N ih8 =>
        intro i all p2 G2 o2 l2 r2 hN hi hp2 hln2 hho2 hD
        rcases hD with ⟨j, k, c0, R4, rfl, hj, hk, hl, he1, he2, he3, hB⟩ | ⟨he1, he2, hv⟩
        · obtain ⟨k', rfl⟩ : ∃ k', k = k' + 1 := by cases k with | zero => cases hl | succ k' => exact ⟨k', rfl⟩
          refine z_iload_n (pc := 8) F dX3_readX_8 rfl 3 rfl ?_
          refine z_bipush (pc := 9) (v := 80) F dX3_readX_9 (by decide) ?_
          refine z_icmp_ge (pc := 11) (tgt := 73) F dX3_readX_11 (by decide) (fun c11 => ?_) (fun c11 => ?_)
          · have hi80 := gI (a := 80) (by decide) (by omega) c11
            have hz2 : sx p2 = 0 := h0 p2 (by omega)
            refine z_iload_n (pc := 73) F dX3_readX_73 rfl 2 rfl ?_
            exact z_iret (pc := 74) F hR dX3_readX_74 (Nat.le_of_ble_eq_true rfl) (Nat.le_of_ble_eq_true rfl) (by have e4 := ps_6n hl (by omega); subst e4; exact ce_y he1 he2 he3 hho2 hln2 rfl hj (BLc hB))
          · have hi80 := ngI (a := 80) (by decide) (by omega) c11
            refine z_iload_n (pc := 14) F dX3_readX_14 rfl 2 rfl ?_
            refine z_iconst (pc := 15) (v := (-1)) F dX3_readX_15 (by decide) ?_
            refine z_icmp_eq (pc := 16) (tgt := 73) F dX3_readX_16 (by decide) (fun c16 => absurd c16 (nI_nm (by omega))) (fun c16 => ?_)
            refine z_aload_n (pc := 19) F dX3_readX_19 rfl 0 rfl ?_
            refine z_callVW (pc := 20) (q0 := 0) (ci := 3) (rest := []) F (c_X3_peek l E r rt rp S ST (mpv SP (nI G2.length) o2 l2 r2) tp sx p2 ht hp2) 0 ww_Reader_51 (by decide +kernel) rfl (by constructor <;> (dsimp only; omega)) ⟨Nat.le_of_ble_eq_true rfl, Nat.le_of_ble_eq_true rfl⟩ rfl rfl rfl rfl (Nat.le_of_ble_eq_true rfl) dX3_readX_20 (fun v_ w1_ hp => ?_)
            obtain ⟨rfl, rfl⟩ := hp
            show Z X (0) (0) (rdw E r (rt 0) (.ref (rp 0)) (mrd S (nI p2)) ++ tpw E rt ST ++ plw E rp (mpv SP (nI G2.length) o2 l2 r2)) [(0, .ref (r 0)), (1, .int (nI op)), (2, .int (nI j)), (3, .int (nI i))] 23 [.int (nI (sx p2))]
            refine z_istore (pc := 23) (lv' := [(0, .ref (r 0)), (1, .int (nI op)), (2, .int (nI j)), (3, .int (nI i)), (4, .int (nI (sx p2)))]) F dX3_readX_23 (by decide) [1, 2, 3, 4, 0] rfl ?_
            refine z_iload (pc := 25) F dX3_readX_25 4 rfl ?_
            refine z_bipush (pc := 27) (v := 43) F dX3_readX_27 (by decide) ?_
            refine z_icmp_eq (pc := 29) (tgt := 41) F dX3_readX_29 (by decide) (fun c29 => ?_) (fun c29 => ?_)
            · have k29 : sx p2 = 43 := nIe (b := 43) (by have := hsx (p2); omega) (by decide) c29
              have kx : sx p2 = 43 ∨ sx p2 = 45 := by omega
              refine z_aload_n (pc := 41) F dX3_readX_41 rfl 0 rfl ?_
              refine z_dup (pc := 42) F dX3_readX_42 rfl ?_
              refine z_get (pc := 43) (v := .int (nI p2)) F iX3 0 rfl rfl 2 (by decide) tw_149 rfl dX3_readX_43 ?_
              refine z_iconst (pc := 46) (v := 1) F dX3_readX_46 (by decide) ?_
              refine z_iadd (pc := 47) F dX3_readX_47 ?_
              rw [show ((nI p2) + 1) = nI (p2 + 1) from (nI_1 _)]
              refine z_put (pc := 48) (ws' := rdw E r (rt 0) (.ref (rp 0)) (mrd S (nI (p2 + 1))) ++ tpw E rt ST ++ plw E rp (mpv SP (nI G2.length) o2 l2 r2)) F iX3 tyX3 tyX3_ok nmX3 0 rfl rfl 2 (by decide) tw_149 rfl rfl rfl (Nat.le_of_ble_eq_true rfl) dX3_readX_48 rfl ?_
              refine z_aload_n (pc := 51) F dX3_readX_51 rfl 0 rfl ?_
              refine z_get (pc := 52) (v := .ref (rp 0)) F iX3 0 rfl rfl 1 (by decide) tw_148 rfl dX3_readX_52 ?_
              refine z_iload (pc := 55) F dX3_readX_55 4 rfl ?_
              refine z_iload_n (pc := 57) F dX3_readX_57 rfl 2 rfl ?_
              refine z_aload_n (pc := 58) F dX3_readX_58 rfl 0 rfl ?_
              refine z_iload_n (pc := 59) F dX3_readX_59 rfl 1 rfl ?_
              obtain ⟨p3, c3, hh3⟩ := ps_6y hl kx; rcases hh3 with ⟨h3, e4⟩ | ⟨h3, R5, h5, e4⟩
              · have hlt2 : p2 < tp := sx_lt h0 (by omega)
                have b3 : (p2 + 1) ≤ p3 ∧ ((p2 + 1) ≤ tp → p3 ≤ tp) := by have q_ := ps_b h0 _ _ _ _ _ (by decide) h3; exact ⟨q_.1, q_.2.1⟩
                refine z_callVW (pc := 60) (q0 := 0) (ci := 3) (rest := [.int (nI j), .int (nI (sx p2)), .ref (rp 0)]) F (cC_n (ihS k' (by omega)) h3 (by omega) (by omega) (by omega) hho2) 1 ww_Reader_105 (by decide +kernel) rfl (by constructor <;> (dsimp only; omega)) ⟨Nat.le_of_ble_eq_true rfl, Nat.le_of_ble_eq_true rfl⟩ rfl rfl rfl rfl (Nat.le_of_ble_eq_true rfl) dX3_readX_60 (fun v_ w1_ hp => ?_)
                obtain ⟨v3, G3, o3, l3, r3, rfl, rfl, hho3, hln3, hv3⟩ := hp
                show Z X (0) (0) (rdw E r (rt 0) (.ref (rp 0)) (mrd S (nI p3)) ++ tpw E rt ST ++ plw E rp (mpv SP (nI G3.length) o3 l3 r3)) [(0, .ref (r 0)), (1, .int (nI op)), (2, .int (nI j)), (3, .int (nI i)), (4, .int (nI (sx p2)))] 63 [.int v3, .int (nI j), .int (nI (sx p2)), .ref (rp 0)]
                rcases hv3 with hv3 | hv3
                · subst hv3
                  refine z_callV (pc := 63) (q0 := 3) (ci := 2) (wr := rdw E r (rt 0) (.ref (rp 0)) (mrd S (nI p3)) ++ tpw E rt ST) (rest := []) F (c_X2_join_n l E rp (mpv SP (nI G3.length) o3 l3 r3) (nI (sx p2)) (nI j) (-1) (Or.inr rfl)) 3 [3, 4, 5, 6] [0, 1, 2] rfl rfl ⟨by decide, by decide, by decide⟩ ww_Reader_95 (by decide +kernel) rfl (by constructor <;> (dsimp only; omega)) ⟨Nat.le_of_ble_eq_true rfl, Nat.le_of_ble_eq_true rfl⟩ rfl rfl rfl rfl (Nat.le_of_ble_eq_true rfl) dX3_readX_63 (fun v_ w1_ hp => ?_)
                  obtain ⟨rfl, rfl⟩ := hp
                  show Z X (0) (0) (rdw E r (rt 0) (.ref (rp 0)) (mrd S (nI p3)) ++ tpw E rt ST ++ plw E rp (mpv SP (nI G3.length) o3 l3 r3)) [(0, .ref (r 0)), (1, .int (nI op)), (2, .int (nI j)), (3, .int (nI i)), (4, .int (nI (sx p2)))] 66 [.int (-1)]
                  refine z_istore_n (pc := 66) (lv' := [(0, .ref (r 0)), (1, .int (nI op)), (2, .int (-1)), (3, .int (nI i)), (4, .int (nI (sx p2)))]) F dX3_readX_66 rfl (by decide) [1, 2, 0, 3, 4] rfl ?_
                  refine z_iinc (pc := 67) (v := nI (i + 1)) (lv' := [(0, .ref (r 0)), (1, .int (nI op)), (2, .int (-1)), (3, .int (nI (i + 1))), (4, .int (nI (sx p2)))]) F (j := 3) dX3_readX_67 rfl (nI_1 _) (by decide) [1, 2, 3, 0, 4] rfl ?_
                  refine z_goto (pc := 70) (tgt := 8) F dX3_readX_70 (by decide) ?_
                  refine z_locals (lv' := [(0, .ref (r 0)), (1, .int (nI op)), (2, .int (-1)), (3, .int (nI (i + 1)))]) [0, 1, 2, 3] rfl ?_
                  subst e4; exact ih8 (i + 1) (-1) p3 G3 _ _ _ (by omega) (by omega) (by omega) (by omega) hho3 (Or.inr ⟨he1, he2, Or.inl rfl⟩)
                · skip
                  refine z_callV (pc := 63) (q0 := 3) (ci := 2) (wr := rdw E r (rt 0) (.ref (rp 0)) (mrd S (nI p3)) ++ tpw E rt ST) (rest := []) F (c_X2_join_y l E rp (mpv SP (nI G3.length) o3 l3 r3) (G3.length) (nI (sx p2)) (nI j) v3 (by omega) rfl (nar_ch (hsx p2)) (nI_nm (by omega)) hv3.1) 3 [3, 4, 5, 6] [0, 1, 2] rfl rfl ⟨by decide, by decide, by decide⟩ ww_Reader_95 (by decide +kernel) rfl (by constructor <;> (dsimp only; omega)) ⟨Nat.le_of_ble_eq_true rfl, Nat.le_of_ble_eq_true rfl⟩ rfl rfl rfl rfl (Nat.le_of_ble_eq_true rfl) dX3_readX_63 (fun v_ w1_ hp => ?_)
                  obtain ⟨rfl, rfl⟩ := hp
                  show Z X (0) (0) (rdw E r (rt 0) (.ref (rp 0)) (mrd S (nI p3)) ++ tpw E rt ST ++ plw E rp (mpv SP (nI ((G3.length) + 1)) (upd o3 (G3.length) (nI (sx p2))) (upd l3 (G3.length) (nI j)) (upd r3 (G3.length) v3))) [(0, .ref (r 0)), (1, .int (nI op)), (2, .int (nI j)), (3, .int (nI i)), (4, .int (nI (sx p2)))] 66 [.int (nI (G3.length))]
                  refine z_istore_n (pc := 66) (lv' := [(0, .ref (r 0)), (1, .int (nI op)), (2, .int (nI (G3.length))), (3, .int (nI i)), (4, .int (nI (sx p2)))]) F dX3_readX_66 rfl (by decide) [1, 2, 0, 3, 4] rfl ?_
                  refine z_iinc (pc := 67) (v := nI (i + 1)) (lv' := [(0, .ref (r 0)), (1, .int (nI op)), (2, .int (nI (G3.length))), (3, .int (nI (i + 1))), (4, .int (nI (sx p2)))]) F (j := 3) dX3_readX_67 rfl (nI_1 _) (by decide) [1, 2, 3, 0, 4] rfl ?_
                  refine z_goto (pc := 70) (tgt := 8) F dX3_readX_70 (by decide) ?_
                  refine z_locals (lv' := [(0, .ref (r 0)), (1, .int (nI op)), (2, .int (nI (G3.length))), (3, .int (nI (i + 1)))]) [0, 1, 2, 3] rfl ?_
                  subst e4; rw [show G3.length + 1 = (G3 ++ [(sx p2, nI j, v3)]).length from (len_add _ _).symm]; have hA9 := hoN_add (c := sx p2) hho3 (c' := nI (sx p2)) (a := nI j) (b := v3) rfl; exact ih8 (i + 1) (nI G3.length) p3 (G3 ++ [(sx p2, nI j, v3)]) _ _ _ (by omega) (by omega) (by omega) (by rw [len_add]; omega) hA9 (Or.inr ⟨he1, he2, Or.inr ⟨nI_nm (by omega), hv3.2⟩⟩)
              · have hlt2 : p2 < tp := sx_lt h0 (by omega)
                have b3 : (p2 + 1) ≤ p3 ∧ ((p2 + 1) ≤ tp → p3 ≤ tp) := by have q_ := ps_b h0 _ _ _ _ _ (by decide) h3; exact ⟨q_.1, q_.2.1⟩
                refine z_callVW (pc := 60) (q0 := 0) (ci := 3) (rest := [.int (nI j), .int (nI (sx p2)), .ref (rp 0)]) F (cC_y (ihS k' (by omega)) h3 (by omega) (by omega) (by omega) hho2) 1 ww_Reader_105 (by decide +kernel) rfl (by constructor <;> (dsimp only; omega)) ⟨Nat.le_of_ble_eq_true rfl, Nat.le_of_ble_eq_true rfl⟩ rfl rfl rfl rfl (Nat.le_of_ble_eq_true rfl) dX3_readX_60 (fun v_ w1_ hp => ?_)
                obtain ⟨j3, G3, o3, l3, r3, rfl, rfl, hho3, hln3, hj3, hB3⟩ := hp
                show Z X (0) (0) (rdw E r (rt 0) (.ref (rp 0)) (mrd S (nI p3)) ++ tpw E rt ST ++ plw E rp (mpv SP (nI G3.length) o3 l3 r3)) [(0, .ref (r 0)), (1, .int (nI op)), (2, .int (nI j)), (3, .int (nI i)), (4, .int (nI (sx p2)))] 63 [.int (nI j3), .int (nI j), .int (nI (sx p2)), .ref (rp 0)]
                refine z_callV (pc := 63) (q0 := 3) (ci := 2) (wr := rdw E r (rt 0) (.ref (rp 0)) (mrd S (nI p3)) ++ tpw E rt ST) (rest := []) F (c_X2_join_y l E rp (mpv SP (nI G3.length) o3 l3 r3) (G3.length) (nI (sx p2)) (nI j) (nI j3) (by omega) rfl (nar_ch (hsx p2)) (nI_nm (by omega)) (nI_nm (by omega))) 3 [3, 4, 5, 6] [0, 1, 2] rfl rfl ⟨by decide, by decide, by decide⟩ ww_Reader_95 (by decide +kernel) rfl (by constructor <;> (dsimp only; omega)) ⟨Nat.le_of_ble_eq_true rfl, Nat.le_of_ble_eq_true rfl⟩ rfl rfl rfl rfl (Nat.le_of_ble_eq_true rfl) dX3_readX_63 (fun v_ w1_ hp => ?_)
                obtain ⟨rfl, rfl⟩ := hp
                show Z X (0) (0) (rdw E r (rt 0) (.ref (rp 0)) (mrd S (nI p3)) ++ tpw E rt ST ++ plw E rp (mpv SP (nI ((G3.length) + 1)) (upd o3 (G3.length) (nI (sx p2))) (upd l3 (G3.length) (nI j)) (upd r3 (G3.length) (nI j3)))) [(0, .ref (r 0)), (1, .int (nI op)), (2, .int (nI j)), (3, .int (nI i)), (4, .int (nI (sx p2)))] 66 [.int (nI (G3.length))]
                refine z_istore_n (pc := 66) (lv' := [(0, .ref (r 0)), (1, .int (nI op)), (2, .int (nI (G3.length))), (3, .int (nI i)), (4, .int (nI (sx p2)))]) F dX3_readX_66 rfl (by decide) [1, 2, 0, 3, 4] rfl ?_
                refine z_iinc (pc := 67) (v := nI (i + 1)) (lv' := [(0, .ref (r 0)), (1, .int (nI op)), (2, .int (nI (G3.length))), (3, .int (nI (i + 1))), (4, .int (nI (sx p2)))]) F (j := 3) dX3_readX_67 rfl (nI_1 _) (by decide) [1, 2, 3, 0, 4] rfl ?_
                refine z_goto (pc := 70) (tgt := 8) F dX3_readX_70 (by decide) ?_
                refine z_locals (lv' := [(0, .ref (r 0)), (1, .int (nI op)), (2, .int (nI (G3.length))), (3, .int (nI (i + 1)))]) [0, 1, 2, 3] rfl ?_
                subst e4; rw [show G3.length + 1 = (G3 ++ [(sx p2, nI j, nI j3)]).length from (len_add _ _).symm]; have hA9 := hoN_add (c := sx p2) hho3 (c' := nI (sx p2)) (a := nI j) (b := nI j3) rfl; exact ih8 (i + 1) (nI G3.length) p3 (G3 ++ [(sx p2, nI j, nI j3)]) _ _ _ (by omega) (by omega) (by omega) (by rw [len_add]; omega) hA9 (Or.inl ⟨G3.length, k', c0 ++ (c3 ++ [(addO (sx p2), 0)]), R5, rfl, by rw [len_add]; omega, by omega, h5, he1, he2, (by rw [List.append_assoc]; exact he3), by have h_ := BL_bin hB hB3 (f := addO (sx p2)) (addO_r _); rw [addO_c kx] at h_; exact h_⟩)
            · have k29 : ¬ sx p2 = 43 := fun h => c29 (by rw [h]; rfl)
              refine z_iload (pc := 32) F dX3_readX_32 4 rfl ?_
              refine z_bipush (pc := 34) (v := 45) F dX3_readX_34 (by decide) ?_
              refine z_icmp_eq (pc := 36) (tgt := 41) F dX3_readX_36 (by decide) (fun c36 => ?_) (fun c36 => ?_)
              · have k36 : sx p2 = 45 := nIe (b := 45) (by have := hsx (p2); omega) (by decide) c36
                have kx : sx p2 = 43 ∨ sx p2 = 45 := by omega
                refine z_aload_n (pc := 41) F dX3_readX_41 rfl 0 rfl ?_
                refine z_dup (pc := 42) F dX3_readX_42 rfl ?_
                refine z_get (pc := 43) (v := .int (nI p2)) F iX3 0 rfl rfl 2 (by decide) tw_149 rfl dX3_readX_43 ?_
                refine z_iconst (pc := 46) (v := 1) F dX3_readX_46 (by decide) ?_
                refine z_iadd (pc := 47) F dX3_readX_47 ?_
                rw [show ((nI p2) + 1) = nI (p2 + 1) from (nI_1 _)]
                refine z_put (pc := 48) (ws' := rdw E r (rt 0) (.ref (rp 0)) (mrd S (nI (p2 + 1))) ++ tpw E rt ST ++ plw E rp (mpv SP (nI G2.length) o2 l2 r2)) F iX3 tyX3 tyX3_ok nmX3 0 rfl rfl 2 (by decide) tw_149 rfl rfl rfl (Nat.le_of_ble_eq_true rfl) dX3_readX_48 rfl ?_
                refine z_aload_n (pc := 51) F dX3_readX_51 rfl 0 rfl ?_
                refine z_get (pc := 52) (v := .ref (rp 0)) F iX3 0 rfl rfl 1 (by decide) tw_148 rfl dX3_readX_52 ?_
                refine z_iload (pc := 55) F dX3_readX_55 4 rfl ?_
                refine z_iload_n (pc := 57) F dX3_readX_57 rfl 2 rfl ?_
                refine z_aload_n (pc := 58) F dX3_readX_58 rfl 0 rfl ?_
                refine z_iload_n (pc := 59) F dX3_readX_59 rfl 1 rfl ?_
                obtain ⟨p3, c3, hh3⟩ := ps_6y hl kx; rcases hh3 with ⟨h3, e4⟩ | ⟨h3, R5, h5, e4⟩
                · have hlt2 : p2 < tp := sx_lt h0 (by omega)
                  have b3 : (p2 + 1) ≤ p3 ∧ ((p2 + 1) ≤ tp → p3 ≤ tp) := by have q_ := ps_b h0 _ _ _ _ _ (by decide) h3; exact ⟨q_.1, q_.2.1⟩
                  refine z_callVW (pc := 60) (q0 := 0) (ci := 3) (rest := [.int (nI j), .int (nI (sx p2)), .ref (rp 0)]) F (cC_n (ihS k' (by omega)) h3 (by omega) (by omega) (by omega) hho2) 1 ww_Reader_105 (by decide +kernel) rfl (by constructor <;> (dsimp only; omega)) ⟨Nat.le_of_ble_eq_true rfl, Nat.le_of_ble_eq_true rfl⟩ rfl rfl rfl rfl (Nat.le_of_ble_eq_true rfl) dX3_readX_60 (fun v_ w1_ hp => ?_)
                  obtain ⟨v3, G3, o3, l3, r3, rfl, rfl, hho3, hln3, hv3⟩ := hp
                  show Z X (0) (0) (rdw E r (rt 0) (.ref (rp 0)) (mrd S (nI p3)) ++ tpw E rt ST ++ plw E rp (mpv SP (nI G3.length) o3 l3 r3)) [(0, .ref (r 0)), (1, .int (nI op)), (2, .int (nI j)), (3, .int (nI i)), (4, .int (nI (sx p2)))] 63 [.int v3, .int (nI j), .int (nI (sx p2)), .ref (rp 0)]
                  rcases hv3 with hv3 | hv3
                  · subst hv3
                    refine z_callV (pc := 63) (q0 := 3) (ci := 2) (wr := rdw E r (rt 0) (.ref (rp 0)) (mrd S (nI p3)) ++ tpw E rt ST) (rest := []) F (c_X2_join_n l E rp (mpv SP (nI G3.length) o3 l3 r3) (nI (sx p2)) (nI j) (-1) (Or.inr rfl)) 3 [3, 4, 5, 6] [0, 1, 2] rfl rfl ⟨by decide, by decide, by decide⟩ ww_Reader_95 (by decide +kernel) rfl (by constructor <;> (dsimp only; omega)) ⟨Nat.le_of_ble_eq_true rfl, Nat.le_of_ble_eq_true rfl⟩ rfl rfl rfl rfl (Nat.le_of_ble_eq_true rfl) dX3_readX_63 (fun v_ w1_ hp => ?_)
                    obtain ⟨rfl, rfl⟩ := hp
                    show Z X (0) (0) (rdw E r (rt 0) (.ref (rp 0)) (mrd S (nI p3)) ++ tpw E rt ST ++ plw E rp (mpv SP (nI G3.length) o3 l3 r3)) [(0, .ref (r 0)), (1, .int (nI op)), (2, .int (nI j)), (3, .int (nI i)), (4, .int (nI (sx p2)))] 66 [.int (-1)]
                    refine z_istore_n (pc := 66) (lv' := [(0, .ref (r 0)), (1, .int (nI op)), (2, .int (-1)), (3, .int (nI i)), (4, .int (nI (sx p2)))]) F dX3_readX_66 rfl (by decide) [1, 2, 0, 3, 4] rfl ?_
                    refine z_iinc (pc := 67) (v := nI (i + 1)) (lv' := [(0, .ref (r 0)), (1, .int (nI op)), (2, .int (-1)), (3, .int (nI (i + 1))), (4, .int (nI (sx p2)))]) F (j := 3) dX3_readX_67 rfl (nI_1 _) (by decide) [1, 2, 3, 0, 4] rfl ?_
                    refine z_goto (pc := 70) (tgt := 8) F dX3_readX_70 (by decide) ?_
                    refine z_locals (lv' := [(0, .ref (r 0)), (1, .int (nI op)), (2, .int (-1)), (3, .int (nI (i + 1)))]) [0, 1, 2, 3] rfl ?_
                    subst e4; exact ih8 (i + 1) (-1) p3 G3 _ _ _ (by omega) (by omega) (by omega) (by omega) hho3 (Or.inr ⟨he1, he2, Or.inl rfl⟩)
                  · skip
                    refine z_callV (pc := 63) (q0 := 3) (ci := 2) (wr := rdw E r (rt 0) (.ref (rp 0)) (mrd S (nI p3)) ++ tpw E rt ST) (rest := []) F (c_X2_join_y l E rp (mpv SP (nI G3.length) o3 l3 r3) (G3.length) (nI (sx p2)) (nI j) v3 (by omega) rfl (nar_ch (hsx p2)) (nI_nm (by omega)) hv3.1) 3 [3, 4, 5, 6] [0, 1, 2] rfl rfl ⟨by decide, by decide, by decide⟩ ww_Reader_95 (by decide +kernel) rfl (by constructor <;> (dsimp only; omega)) ⟨Nat.le_of_ble_eq_true rfl, Nat.le_of_ble_eq_true rfl⟩ rfl rfl rfl rfl (Nat.le_of_ble_eq_true rfl) dX3_readX_63 (fun v_ w1_ hp => ?_)
                    obtain ⟨rfl, rfl⟩ := hp
                    show Z X (0) (0) (rdw E r (rt 0) (.ref (rp 0)) (mrd S (nI p3)) ++ tpw E rt ST ++ plw E rp (mpv SP (nI ((G3.length) + 1)) (upd o3 (G3.length) (nI (sx p2))) (upd l3 (G3.length) (nI j)) (upd r3 (G3.length) v3))) [(0, .ref (r 0)), (1, .int (nI op)), (2, .int (nI j)), (3, .int (nI i)), (4, .int (nI (sx p2)))] 66 [.int (nI (G3.length))]
                    refine z_istore_n (pc := 66) (lv' := [(0, .ref (r 0)), (1, .int (nI op)), (2, .int (nI (G3.length))), (3, .int (nI i)), (4, .int (nI (sx p2)))]) F dX3_readX_66 rfl (by decide) [1, 2, 0, 3, 4] rfl ?_
                    refine z_iinc (pc := 67) (v := nI (i + 1)) (lv' := [(0, .ref (r 0)), (1, .int (nI op)), (2, .int (nI (G3.length))), (3, .int (nI (i + 1))), (4, .int (nI (sx p2)))]) F (j := 3) dX3_readX_67 rfl (nI_1 _) (by decide) [1, 2, 3, 0, 4] rfl ?_
                    refine z_goto (pc := 70) (tgt := 8) F dX3_readX_70 (by decide) ?_
                    refine z_locals (lv' := [(0, .ref (r 0)), (1, .int (nI op)), (2, .int (nI (G3.length))), (3, .int (nI (i + 1)))]) [0, 1, 2, 3] rfl ?_
                    subst e4; rw [show G3.length + 1 = (G3 ++ [(sx p2, nI j, v3)]).length from (len_add _ _).symm]; have hA9 := hoN_add (c := sx p2) hho3 (c' := nI (sx p2)) (a := nI j) (b := v3) rfl; exact ih8 (i + 1) (nI G3.length) p3 (G3 ++ [(sx p2, nI j, v3)]) _ _ _ (by omega) (by omega) (by omega) (by rw [len_add]; omega) hA9 (Or.inr ⟨he1, he2, Or.inr ⟨nI_nm (by omega), hv3.2⟩⟩)
                · have hlt2 : p2 < tp := sx_lt h0 (by omega)
                  have b3 : (p2 + 1) ≤ p3 ∧ ((p2 + 1) ≤ tp → p3 ≤ tp) := by have q_ := ps_b h0 _ _ _ _ _ (by decide) h3; exact ⟨q_.1, q_.2.1⟩
                  refine z_callVW (pc := 60) (q0 := 0) (ci := 3) (rest := [.int (nI j), .int (nI (sx p2)), .ref (rp 0)]) F (cC_y (ihS k' (by omega)) h3 (by omega) (by omega) (by omega) hho2) 1 ww_Reader_105 (by decide +kernel) rfl (by constructor <;> (dsimp only; omega)) ⟨Nat.le_of_ble_eq_true rfl, Nat.le_of_ble_eq_true rfl⟩ rfl rfl rfl rfl (Nat.le_of_ble_eq_true rfl) dX3_readX_60 (fun v_ w1_ hp => ?_)
                  obtain ⟨j3, G3, o3, l3, r3, rfl, rfl, hho3, hln3, hj3, hB3⟩ := hp
                  show Z X (0) (0) (rdw E r (rt 0) (.ref (rp 0)) (mrd S (nI p3)) ++ tpw E rt ST ++ plw E rp (mpv SP (nI G3.length) o3 l3 r3)) [(0, .ref (r 0)), (1, .int (nI op)), (2, .int (nI j)), (3, .int (nI i)), (4, .int (nI (sx p2)))] 63 [.int (nI j3), .int (nI j), .int (nI (sx p2)), .ref (rp 0)]
                  refine z_callV (pc := 63) (q0 := 3) (ci := 2) (wr := rdw E r (rt 0) (.ref (rp 0)) (mrd S (nI p3)) ++ tpw E rt ST) (rest := []) F (c_X2_join_y l E rp (mpv SP (nI G3.length) o3 l3 r3) (G3.length) (nI (sx p2)) (nI j) (nI j3) (by omega) rfl (nar_ch (hsx p2)) (nI_nm (by omega)) (nI_nm (by omega))) 3 [3, 4, 5, 6] [0, 1, 2] rfl rfl ⟨by decide, by decide, by decide⟩ ww_Reader_95 (by decide +kernel) rfl (by constructor <;> (dsimp only; omega)) ⟨Nat.le_of_ble_eq_true rfl, Nat.le_of_ble_eq_true rfl⟩ rfl rfl rfl rfl (Nat.le_of_ble_eq_true rfl) dX3_readX_63 (fun v_ w1_ hp => ?_)
                  obtain ⟨rfl, rfl⟩ := hp
                  show Z X (0) (0) (rdw E r (rt 0) (.ref (rp 0)) (mrd S (nI p3)) ++ tpw E rt ST ++ plw E rp (mpv SP (nI ((G3.length) + 1)) (upd o3 (G3.length) (nI (sx p2))) (upd l3 (G3.length) (nI j)) (upd r3 (G3.length) (nI j3)))) [(0, .ref (r 0)), (1, .int (nI op)), (2, .int (nI j)), (3, .int (nI i)), (4, .int (nI (sx p2)))] 66 [.int (nI (G3.length))]
                  refine z_istore_n (pc := 66) (lv' := [(0, .ref (r 0)), (1, .int (nI op)), (2, .int (nI (G3.length))), (3, .int (nI i)), (4, .int (nI (sx p2)))]) F dX3_readX_66 rfl (by decide) [1, 2, 0, 3, 4] rfl ?_
                  refine z_iinc (pc := 67) (v := nI (i + 1)) (lv' := [(0, .ref (r 0)), (1, .int (nI op)), (2, .int (nI (G3.length))), (3, .int (nI (i + 1))), (4, .int (nI (sx p2)))]) F (j := 3) dX3_readX_67 rfl (nI_1 _) (by decide) [1, 2, 3, 0, 4] rfl ?_
                  refine z_goto (pc := 70) (tgt := 8) F dX3_readX_70 (by decide) ?_
                  refine z_locals (lv' := [(0, .ref (r 0)), (1, .int (nI op)), (2, .int (nI (G3.length))), (3, .int (nI (i + 1)))]) [0, 1, 2, 3] rfl ?_
                  subst e4; rw [show G3.length + 1 = (G3 ++ [(sx p2, nI j, nI j3)]).length from (len_add _ _).symm]; have hA9 := hoN_add (c := sx p2) hho3 (c' := nI (sx p2)) (a := nI j) (b := nI j3) rfl; exact ih8 (i + 1) (nI G3.length) p3 (G3 ++ [(sx p2, nI j, nI j3)]) _ _ _ (by omega) (by omega) (by omega) (by rw [len_add]; omega) hA9 (Or.inl ⟨G3.length, k', c0 ++ (c3 ++ [(addO (sx p2), 0)]), R5, rfl, by rw [len_add]; omega, by omega, h5, he1, he2, (by rw [List.append_assoc]; exact he3), by have h_ := BL_bin hB hB3 (f := addO (sx p2)) (addO_r _); rw [addO_c kx] at h_; exact h_⟩)
              · have k36 : ¬ sx p2 = 45 := fun h => c36 (by rw [h]; rfl)
                refine z_iload_n (pc := 39) F dX3_readX_39 rfl 2 rfl ?_
                exact z_iret (pc := 40) F hR dX3_readX_40 (Nat.le_of_ble_eq_true rfl) (Nat.le_of_ble_eq_true rfl) (by have e4 := ps_6n hl (by omega); subst e4; exact ce_y he1 he2 he3 hho2 hln2 rfl hj (BLc hB))
        · skip
          refine z_iload_n (pc := 8) F dX3_readX_8 rfl 3 rfl ?_
          rcases hv with hv | hv
          · subst hv
            refine z_bipush (pc := 9) (v := 80) F dX3_readX_9 (by decide) ?_
            refine z_icmp_ge (pc := 11) (tgt := 73) F dX3_readX_11 (by decide) (fun c11 => ?_) (fun c11 => ?_)
            · have hi80 := gI (a := 80) (by decide) (by omega) c11
              have hz2 : sx p2 = 0 := h0 p2 (by omega)
              refine z_iload_n (pc := 73) F dX3_readX_73 rfl 2 rfl ?_
              exact z_iret (pc := 74) F hR dX3_readX_74 (Nat.le_of_ble_eq_true rfl) (Nat.le_of_ble_eq_true rfl) (ce_n he1 he2 hho2 hln2 (Or.inl rfl))
            · have hi80 := ngI (a := 80) (by decide) (by omega) c11
              refine z_iload_n (pc := 14) F dX3_readX_14 rfl 2 rfl ?_
              refine z_iconst (pc := 15) (v := (-1)) F dX3_readX_15 (by decide) ?_
              refine z_icmp_eq (pc := 16) (tgt := 73) F dX3_readX_16 (by decide) (fun _ => ?_) (fun h => absurd h (by decide))
              refine z_iload_n (pc := 73) F dX3_readX_73 rfl 2 rfl ?_
              exact z_iret (pc := 74) F hR dX3_readX_74 (Nat.le_of_ble_eq_true rfl) (Nat.le_of_ble_eq_true rfl) (ce_n he1 he2 hho2 hln2 (Or.inl rfl))
          · skip
            refine z_bipush (pc := 9) (v := 80) F dX3_readX_9 (by decide) ?_
            refine z_icmp_ge (pc := 11) (tgt := 73) F dX3_readX_11 (by decide) (fun c11 => ?_) (fun c11 => ?_)
            · have hi80 := gI (a := 80) (by decide) (by omega) c11
              have hz2 : sx p2 = 0 := h0 p2 (by omega)
              refine z_iload_n (pc := 73) F dX3_readX_73 rfl 2 rfl ?_
              exact z_iret (pc := 74) F hR dX3_readX_74 (Nat.le_of_ble_eq_true rfl) (Nat.le_of_ble_eq_true rfl) (ce_n he1 he2 hho2 hln2 (Or.inr hv))
            · have hi80 := ngI (a := 80) (by decide) (by omega) c11
              refine z_iload_n (pc := 14) F dX3_readX_14 rfl 2 rfl ?_
              refine z_iconst (pc := 15) (v := (-1)) F dX3_readX_15 (by decide) ?_
              refine z_icmp_eq (pc := 16) (tgt := 73) F dX3_readX_16 (by decide) (fun c16 => absurd c16 hv.1) (fun c16 => ?_)
              refine z_aload_n (pc := 19) F dX3_readX_19 rfl 0 rfl ?_
              refine z_callVW (pc := 20) (q0 := 0) (ci := 3) (rest := []) F (c_X3_peek l E r rt rp S ST (mpv SP (nI G2.length) o2 l2 r2) tp sx p2 ht hp2) 0 ww_Reader_51 (by decide +kernel) rfl (by constructor <;> (dsimp only; omega)) ⟨Nat.le_of_ble_eq_true rfl, Nat.le_of_ble_eq_true rfl⟩ rfl rfl rfl rfl (Nat.le_of_ble_eq_true rfl) dX3_readX_20 (fun v_ w1_ hp => ?_)
              obtain ⟨rfl, rfl⟩ := hp
              show Z X (0) (0) (rdw E r (rt 0) (.ref (rp 0)) (mrd S (nI p2)) ++ tpw E rt ST ++ plw E rp (mpv SP (nI G2.length) o2 l2 r2)) [(0, .ref (r 0)), (1, .int (nI op)), (2, .int all), (3, .int (nI i))] 23 [.int (nI (sx p2))]
              refine z_istore (pc := 23) (lv' := [(0, .ref (r 0)), (1, .int (nI op)), (2, .int all), (3, .int (nI i)), (4, .int (nI (sx p2)))]) F dX3_readX_23 (by decide) [1, 2, 3, 4, 0] rfl ?_
              refine z_iload (pc := 25) F dX3_readX_25 4 rfl ?_
              refine z_bipush (pc := 27) (v := 43) F dX3_readX_27 (by decide) ?_
              refine z_icmp_eq (pc := 29) (tgt := 41) F dX3_readX_29 (by decide) (fun c29 => absurd c29 (fun h => isD_ne hv.2 (by decide) (nIe (b := 43) (by have := hsx p2; omega) (by decide) h))) (fun c29 => ?_)
              have k29 : ¬ sx p2 = 43 := fun h => c29 (by rw [h]; rfl)
              refine z_iload (pc := 32) F dX3_readX_32 4 rfl ?_
              refine z_bipush (pc := 34) (v := 45) F dX3_readX_34 (by decide) ?_
              refine z_icmp_eq (pc := 36) (tgt := 41) F dX3_readX_36 (by decide) (fun c36 => absurd c36 (fun h => isD_ne hv.2 (by decide) (nIe (b := 45) (by have := hsx p2; omega) (by decide) h))) (fun c36 => ?_)
              have k36 : ¬ sx p2 = 45 := fun h => c36 (by rw [h]; rfl)
              refine z_iload_n (pc := 39) F dX3_readX_39 rfl 2 rfl ?_
              exact z_iret (pc := 40) F hR dX3_readX_40 (Nat.le_of_ble_eq_true rfl) (Nat.le_of_ble_eq_true rfl) (ce_n he1 he2 hho2 hln2 (Or.inr hv))
    exact L8 _ 0 v1 p1 G1 o1_ l1_ r1_ (Nat.lt_succ_self _) (Nat.zero_le _) (by omega) hln1 hho1 (Or.inr ⟨rfl, rfl, hv1⟩)
  · have b1 : p ≤ p1 ∧ (p ≤ tp → p1 ≤ tp) := by have q_ := ps_b h0 _ _ _ _ _ (by decide) h1; exact ⟨q_.1, q_.2.1⟩
    refine z_aload_n (pc := 0) F dX3_readX_0 rfl 0 rfl ?_
    refine z_iload_n (pc := 1) F dX3_readX_1 rfl 1 rfl ?_
    refine z_callVW (pc := 2) (q0 := 0) (ci := 3) (rest := []) F (cC_y (ihS n' (by omega)) h1 hp hN hop hho) 1 ww_Reader_105 (by decide +kernel) rfl (by constructor <;> (dsimp only; omega)) ⟨Nat.le_of_ble_eq_true rfl, Nat.le_of_ble_eq_true rfl⟩ rfl rfl rfl rfl (Nat.le_of_ble_eq_true rfl) dX3_readX_2 (fun v_ w1_ hp => ?_)
    obtain ⟨j1, G1, o1_, l1_, r1_, rfl, rfl, hho1, hln1, hj1, hB1⟩ := hp
    show Z X (0) (0) (rdw E r (rt 0) (.ref (rp 0)) (mrd S (nI p1)) ++ tpw E rt ST ++ plw E rp (mpv SP (nI G1.length) o1_ l1_ r1_)) [(0, .ref (r 0)), (1, .int (nI op))] 5 [.int (nI j1)]
    refine z_istore_n (pc := 5) (lv' := [(0, .ref (r 0)), (1, .int (nI op)), (2, .int (nI j1))]) F dX3_readX_5 rfl (by decide) [1, 2, 0] rfl ?_
    refine z_iconst (pc := 6) (v := 0) F dX3_readX_6 (by decide) ?_
    refine z_istore_n (pc := 7) (lv' := [(0, .ref (r 0)), (1, .int (nI op)), (2, .int (nI j1)), (3, .int 0)]) F dX3_readX_7 rfl (by decide) [1, 2, 3, 0] rfl ?_
    have L8 : ∀ (N : Nat) (i : Nat) (all : Int32) (p2 : Nat) (G2 : List zNd) (o2 : Nat → Int32) (l2 : Nat → Int32) (r2 : Nat → Int32), (81 - i) < N → (i ≤ p2) → (p2 ≤ tp) → (G2.length + p ≤ G.length + p2) → (hoN G2 o2 l2 r2) → (cLp sx 6 op n' G G2 p2 all (R2.1, R2.2.1, c1 ++ R2.2.2)) → Z X (0) (0) (rdw E r (rt 0) (.ref (rp 0)) (mrd S (nI p2)) ++ tpw E rt ST ++ plw E rp (mpv SP (nI G2.length) o2 l2 r2)) [(0, .ref (r 0)), (1, .int (nI op)), (2, .int all), (3, .int (nI i))] 8 [] := by
      intro N
      induction N with
      | zero => intro i all p2 G2 o2 l2 r2 hN; exact absurd hN (Nat.not_lt_zero _)
      | succ N ih8 =>
        intro i all p2 G2 o2 l2 r2 hN hi hp2 hln2 hho2 hD
        rcases hD with ⟨j, k, c0, R4, rfl, hj, hk, hl, he1, he2, he3, hB⟩ | ⟨he1, he2, hv⟩
        · obtain ⟨k', rfl⟩ : ∃ k', k = k' + 1 := by cases k with | zero => cases hl | succ k' => exact ⟨k', rfl⟩
          refine z_iload_n (pc := 8) F dX3_readX_8 rfl 3 rfl ?_
          refine z_bipush (pc := 9) (v := 80) F dX3_readX_9 (by decide) ?_
          refine z_icmp_ge (pc := 11) (tgt := 73) F dX3_readX_11 (by decide) (fun c11 => ?_) (fun c11 => ?_)
          · have hi80 := gI (a := 80) (by decide) (by omega) c11
            have hz2 : sx p2 = 0 := h0 p2 (by omega)
            refine z_iload_n (pc := 73) F dX3_readX_73 rfl 2 rfl ?_
            exact z_iret (pc := 74) F hR dX3_readX_74 (Nat.le_of_ble_eq_true rfl) (Nat.le_of_ble_eq_true rfl) (by have e4 := ps_6n hl (by omega); subst e4; exact ce_y he1 he2 he3 hho2 hln2 rfl hj (BLc hB))
          · have hi80 := ngI (a := 80) (by decide) (by omega) c11
            refine z_iload_n (pc := 14) F dX3_readX_14 rfl 2 rfl ?_
            refine z_iconst (pc := 15) (v := (-1)) F dX3_readX_15 (by decide) ?_
            refine z_icmp_eq (pc := 16) (tgt := 73) F dX3_readX_16 (by decide) (fun c16 => absurd c16 (nI_nm (by omega))) (fun c16 => ?_)
            refine z_aload_n (pc := 19) F dX3_readX_19 rfl 0 rfl ?_
            refine z_callVW (pc := 20) (q0 := 0) (ci := 3) (rest := []) F (c_X3_peek l E r rt rp S ST (mpv SP (nI G2.length) o2 l2 r2) tp sx p2 ht hp2) 0 ww_Reader_51 (by decide +kernel) rfl (by constructor <;> (dsimp only; omega)) ⟨Nat.le_of_ble_eq_true rfl, Nat.le_of_ble_eq_true rfl⟩ rfl rfl rfl rfl (Nat.le_of_ble_eq_true rfl) dX3_readX_20 (fun v_ w1_ hp => ?_)
            obtain ⟨rfl, rfl⟩ := hp
            show Z X (0) (0) (rdw E r (rt 0) (.ref (rp 0)) (mrd S (nI p2)) ++ tpw E rt ST ++ plw E rp (mpv SP (nI G2.length) o2 l2 r2)) [(0, .ref (r 0)), (1, .int (nI op)), (2, .int (nI j)), (3, .int (nI i))] 23 [.int (nI (sx p2))]
            refine z_istore (pc := 23) (lv' := [(0, .ref (r 0)), (1, .int (nI op)), (2, .int (nI j)), (3, .int (nI i)), (4, .int (nI (sx p2)))]) F dX3_readX_23 (by decide) [1, 2, 3, 4, 0] rfl ?_
            refine z_iload (pc := 25) F dX3_readX_25 4 rfl ?_
            refine z_bipush (pc := 27) (v := 43) F dX3_readX_27 (by decide) ?_
            refine z_icmp_eq (pc := 29) (tgt := 41) F dX3_readX_29 (by decide) (fun c29 => ?_) (fun c29 => ?_)
            · have k29 : sx p2 = 43 := nIe (b := 43) (by have := hsx (p2); omega) (by decide) c29
              have kx : sx p2 = 43 ∨ sx p2 = 45 := by omega
              refine z_aload_n (pc := 41) F dX3_readX_41 rfl 0 rfl ?_
              refine z_dup (pc := 42) F dX3_readX_42 rfl ?_
              refine z_get (pc := 43) (v := .int (nI p2)) F iX3 0 rfl rfl 2 (by decide) tw_149 rfl dX3_readX_43 ?_
              refine z_iconst (pc := 46) (v := 1) F dX3_readX_46 (by decide) ?_
              refine z_iadd (pc := 47) F dX3_readX_47 ?_
              rw [show ((nI p2) + 1) = nI (p2 + 1) from (nI_1 _)]
              refine z_put (pc := 48) (ws' := rdw E r (rt 0) (.ref (rp 0)) (mrd S (nI (p2 + 1))) ++ tpw E rt ST ++ plw E rp (mpv SP (nI G2.length) o2 l2 r2)) F iX3 tyX3 tyX3_ok nmX3 0 rfl rfl 2 (by decide) tw_149 rfl rfl rfl (Nat.le_of_ble_eq_true rfl) dX3_readX_48 rfl ?_
              refine z_aload_n (pc := 51) F dX3_readX_51 rfl 0 rfl ?_
              refine z_get (pc := 52) (v := .ref (rp 0)) F iX3 0 rfl rfl 1 (by decide) tw_148 rfl dX3_readX_52 ?_
              refine z_iload (pc := 55) F dX3_readX_55 4 rfl ?_
              refine z_iload_n (pc := 57) F dX3_readX_57 rfl 2 rfl ?_
              refine z_aload_n (pc := 58) F dX3_readX_58 rfl 0 rfl ?_
              refine z_iload_n (pc := 59) F dX3_readX_59 rfl 1 rfl ?_
              obtain ⟨p3, c3, hh3⟩ := ps_6y hl kx; rcases hh3 with ⟨h3, e4⟩ | ⟨h3, R5, h5, e4⟩
              · have hlt2 : p2 < tp := sx_lt h0 (by omega)
                have b3 : (p2 + 1) ≤ p3 ∧ ((p2 + 1) ≤ tp → p3 ≤ tp) := by have q_ := ps_b h0 _ _ _ _ _ (by decide) h3; exact ⟨q_.1, q_.2.1⟩
                refine z_callVW (pc := 60) (q0 := 0) (ci := 3) (rest := [.int (nI j), .int (nI (sx p2)), .ref (rp 0)]) F (cC_n (ihS k' (by omega)) h3 (by omega) (by omega) (by omega) hho2) 1 ww_Reader_105 (by decide +kernel) rfl (by constructor <;> (dsimp only; omega)) ⟨Nat.le_of_ble_eq_true rfl, Nat.le_of_ble_eq_true rfl⟩ rfl rfl rfl rfl (Nat.le_of_ble_eq_true rfl) dX3_readX_60 (fun v_ w1_ hp => ?_)
                obtain ⟨v3, G3, o3, l3, r3, rfl, rfl, hho3, hln3, hv3⟩ := hp
                show Z X (0) (0) (rdw E r (rt 0) (.ref (rp 0)) (mrd S (nI p3)) ++ tpw E rt ST ++ plw E rp (mpv SP (nI G3.length) o3 l3 r3)) [(0, .ref (r 0)), (1, .int (nI op)), (2, .int (nI j)), (3, .int (nI i)), (4, .int (nI (sx p2)))] 63 [.int v3, .int (nI j), .int (nI (sx p2)), .ref (rp 0)]
                rcases hv3 with hv3 | hv3
                · subst hv3
                  refine z_callV (pc := 63) (q0 := 3) (ci := 2) (wr := rdw E r (rt 0) (.ref (rp 0)) (mrd S (nI p3)) ++ tpw E rt ST) (rest := []) F (c_X2_join_n l E rp (mpv SP (nI G3.length) o3 l3 r3) (nI (sx p2)) (nI j) (-1) (Or.inr rfl)) 3 [3, 4, 5, 6] [0, 1, 2] rfl rfl ⟨by decide, by decide, by decide⟩ ww_Reader_95 (by decide +kernel) rfl (by constructor <;> (dsimp only; omega)) ⟨Nat.le_of_ble_eq_true rfl, Nat.le_of_ble_eq_true rfl⟩ rfl rfl rfl rfl (Nat.le_of_ble_eq_true rfl) dX3_readX_63 (fun v_ w1_ hp => ?_)
                  obtain ⟨rfl, rfl⟩ := hp
                  show Z X (0) (0) (rdw E r (rt 0) (.ref (rp 0)) (mrd S (nI p3)) ++ tpw E rt ST ++ plw E rp (mpv SP (nI G3.length) o3 l3 r3)) [(0, .ref (r 0)), (1, .int (nI op)), (2, .int (nI j)), (3, .int (nI i)), (4, .int (nI (sx p2)))] 66 [.int (-1)]
                  refine z_istore_n (pc := 66) (lv' := [(0, .ref (r 0)), (1, .int (nI op)), (2, .int (-1)), (3, .int (nI i)), (4, .int (nI (sx p2)))]) F dX3_readX_66 rfl (by decide) [1, 2, 0, 3, 4] rfl ?_
                  refine z_iinc (pc := 67) (v := nI (i + 1)) (lv' := [(0, .ref (r 0)), (1, .int (nI op)), (2, .int (-1)), (3, .int (nI (i + 1))), (4, .int (nI (sx p2)))]) F (j := 3) dX3_readX_67 rfl (nI_1 _) (by decide) [1, 2, 3, 0, 4] rfl ?_
                  refine z_goto (pc := 70) (tgt := 8) F dX3_readX_70 (by decide) ?_
                  refine z_locals (lv' := [(0, .ref (r 0)), (1, .int (nI op)), (2, .int (-1)), (3, .int (nI (i + 1)))]) [0, 1, 2, 3] rfl ?_
                  subst e4; exact ih8 (i + 1) (-1) p3 G3 _ _ _ (by omega) (by omega) (by omega) (by omega) hho3 (Or.inr ⟨he1, he2, Or.inl rfl⟩)
                · skip
                  refine z_callV (pc := 63) (q0 := 3) (ci := 2) (wr := rdw E r (rt 0) (.ref (rp 0)) (mrd S (nI p3)) ++ tpw E rt ST) (rest := []) F (c_X2_join_y l E rp (mpv SP (nI G3.length) o3 l3 r3) (G3.length) (nI (sx p2)) (nI j) v3 (by omega) rfl (nar_ch (hsx p2)) (nI_nm (by omega)) hv3.1) 3 [3, 4, 5, 6] [0, 1, 2] rfl rfl ⟨by decide, by decide, by decide⟩ ww_Reader_95 (by decide +kernel) rfl (by constructor <;> (dsimp only; omega)) ⟨Nat.le_of_ble_eq_true rfl, Nat.le_of_ble_eq_true rfl⟩ rfl rfl rfl rfl (Nat.le_of_ble_eq_true rfl) dX3_readX_63 (fun v_ w1_ hp => ?_)
                  obtain ⟨rfl, rfl⟩ := hp
                  show Z X (0) (0) (rdw E r (rt 0) (.ref (rp 0)) (mrd S (nI p3)) ++ tpw E rt ST ++ plw E rp (mpv SP (nI ((G3.length) + 1)) (upd o3 (G3.length) (nI (sx p2))) (upd l3 (G3.length) (nI j)) (upd r3 (G3.length) v3))) [(0, .ref (r 0)), (1, .int (nI op)), (2, .int (nI j)), (3, .int (nI i)), (4, .int (nI (sx p2)))] 66 [.int (nI (G3.length))]
                  refine z_istore_n (pc := 66) (lv' := [(0, .ref (r 0)), (1, .int (nI op)), (2, .int (nI (G3.length))), (3, .int (nI i)), (4, .int (nI (sx p2)))]) F dX3_readX_66 rfl (by decide) [1, 2, 0, 3, 4] rfl ?_
                  refine z_iinc (pc := 67) (v := nI (i + 1)) (lv' := [(0, .ref (r 0)), (1, .int (nI op)), (2, .int (nI (G3.length))), (3, .int (nI (i + 1))), (4, .int (nI (sx p2)))]) F (j := 3) dX3_readX_67 rfl (nI_1 _) (by decide) [1, 2, 3, 0, 4] rfl ?_
                  refine z_goto (pc := 70) (tgt := 8) F dX3_readX_70 (by decide) ?_
                  refine z_locals (lv' := [(0, .ref (r 0)), (1, .int (nI op)), (2, .int (nI (G3.length))), (3, .int (nI (i + 1)))]) [0, 1, 2, 3] rfl ?_
                  subst e4; rw [show G3.length + 1 = (G3 ++ [(sx p2, nI j, v3)]).length from (len_add _ _).symm]; have hA9 := hoN_add (c := sx p2) hho3 (c' := nI (sx p2)) (a := nI j) (b := v3) rfl; exact ih8 (i + 1) (nI G3.length) p3 (G3 ++ [(sx p2, nI j, v3)]) _ _ _ (by omega) (by omega) (by omega) (by rw [len_add]; omega) hA9 (Or.inr ⟨he1, he2, Or.inr ⟨nI_nm (by omega), hv3.2⟩⟩)
              · have hlt2 : p2 < tp := sx_lt h0 (by omega)
                have b3 : (p2 + 1) ≤ p3 ∧ ((p2 + 1) ≤ tp → p3 ≤ tp) := by have q_ := ps_b h0 _ _ _ _ _ (by decide) h3; exact ⟨q_.1, q_.2.1⟩
                refine z_callVW (pc := 60) (q0 := 0) (ci := 3) (rest := [.int (nI j), .int (nI (sx p2)), .ref (rp 0)]) F (cC_y (ihS k' (by omega)) h3 (by omega) (by omega) (by omega) hho2) 1 ww_Reader_105 (by decide +kernel) rfl (by constructor <;> (dsimp only; omega)) ⟨Nat.le_of_ble_eq_true rfl, Nat.le_of_ble_eq_true rfl⟩ rfl rfl rfl rfl (Nat.le_of_ble_eq_true rfl) dX3_readX_60 (fun v_ w1_ hp => ?_)
                obtain ⟨j3, G3, o3, l3, r3, rfl, rfl, hho3, hln3, hj3, hB3⟩ := hp
                show Z X (0) (0) (rdw E r (rt 0) (.ref (rp 0)) (mrd S (nI p3)) ++ tpw E rt ST ++ plw E rp (mpv SP (nI G3.length) o3 l3 r3)) [(0, .ref (r 0)), (1, .int (nI op)), (2, .int (nI j)), (3, .int (nI i)), (4, .int (nI (sx p2)))] 63 [.int (nI j3), .int (nI j), .int (nI (sx p2)), .ref (rp 0)]
                refine z_callV (pc := 63) (q0 := 3) (ci := 2) (wr := rdw E r (rt 0) (.ref (rp 0)) (mrd S (nI p3)) ++ tpw E rt ST) (rest := []) F (c_X2_join_y l E rp (mpv SP (nI G3.length) o3 l3 r3) (G3.length) (nI (sx p2)) (nI j) (nI j3) (by omega) rfl (nar_ch (hsx p2)) (nI_nm (by omega)) (nI_nm (by omega))) 3 [3, 4, 5, 6] [0, 1, 2] rfl rfl ⟨by decide, by decide, by decide⟩ ww_Reader_95 (by decide +kernel) rfl (by constructor <;> (dsimp only; omega)) ⟨Nat.le_of_ble_eq_true rfl, Nat.le_of_ble_eq_true rfl⟩ rfl rfl rfl rfl (Nat.le_of_ble_eq_true rfl) dX3_readX_63 (fun v_ w1_ hp => ?_)
                obtain ⟨rfl, rfl⟩ := hp
                show Z X (0) (0) (rdw E r (rt 0) (.ref (rp 0)) (mrd S (nI p3)) ++ tpw E rt ST ++ plw E rp (mpv SP (nI ((G3.length) + 1)) (upd o3 (G3.length) (nI (sx p2))) (upd l3 (G3.length) (nI j)) (upd r3 (G3.length) (nI j3)))) [(0, .ref (r 0)), (1, .int (nI op)), (2, .int (nI j)), (3, .int (nI i)), (4, .int (nI (sx p2)))] 66 [.int (nI (G3.length))]
                refine z_istore_n (pc := 66) (lv' := [(0, .ref (r 0)), (1, .int (nI op)), (2, .int (nI (G3.length))), (3, .int (nI i)), (4, .int (nI (sx p2)))]) F dX3_readX_66 rfl (by decide) [1, 2, 0, 3, 4] rfl ?_
                refine z_iinc (pc := 67) (v := nI (i + 1)) (lv' := [(0, .ref (r 0)), (1, .int (nI op)), (2, .int (nI (G3.length))), (3, .int (nI (i + 1))), (4, .int (nI (sx p2)))]) F (j := 3) dX3_readX_67 rfl (nI_1 _) (by decide) [1, 2, 3, 0, 4] rfl ?_
                refine z_goto (pc := 70) (tgt := 8) F dX3_readX_70 (by decide) ?_
                refine z_locals (lv' := [(0, .ref (r 0)), (1, .int (nI op)), (2, .int (nI (G3.length))), (3, .int (nI (i + 1)))]) [0, 1, 2, 3] rfl ?_
                subst e4; rw [show G3.length + 1 = (G3 ++ [(sx p2, nI j, nI j3)]).length from (len_add _ _).symm]; have hA9 := hoN_add (c := sx p2) hho3 (c' := nI (sx p2)) (a := nI j) (b := nI j3) rfl; exact ih8 (i + 1) (nI G3.length) p3 (G3 ++ [(sx p2, nI j, nI j3)]) _ _ _ (by omega) (by omega) (by omega) (by rw [len_add]; omega) hA9 (Or.inl ⟨G3.length, k', c0 ++ (c3 ++ [(addO (sx p2), 0)]), R5, rfl, by rw [len_add]; omega, by omega, h5, he1, he2, (by rw [List.append_assoc]; exact he3), by have h_ := BL_bin hB hB3 (f := addO (sx p2)) (addO_r _); rw [addO_c kx] at h_; exact h_⟩)
            · have k29 : ¬ sx p2 = 43 := fun h => c29 (by rw [h]; rfl)
              refine z_iload (pc := 32) F dX3_readX_32 4 rfl ?_
              refine z_bipush (pc := 34) (v := 45) F dX3_readX_34 (by decide) ?_
              refine z_icmp_eq (pc := 36) (tgt := 41) F dX3_readX_36 (by decide) (fun c36 => ?_) (fun c36 => ?_)
              · have k36 : sx p2 = 45 := nIe (b := 45) (by have := hsx (p2); omega) (by decide) c36
                have kx : sx p2 = 43 ∨ sx p2 = 45 := by omega
                refine z_aload_n (pc := 41) F dX3_readX_41 rfl 0 rfl ?_
                refine z_dup (pc := 42) F dX3_readX_42 rfl ?_
                refine z_get (pc := 43) (v := .int (nI p2)) F iX3 0 rfl rfl 2 (by decide) tw_149 rfl dX3_readX_43 ?_
                refine z_iconst (pc := 46) (v := 1) F dX3_readX_46 (by decide) ?_
                refine z_iadd (pc := 47) F dX3_readX_47 ?_
                rw [show ((nI p2) + 1) = nI (p2 + 1) from (nI_1 _)]
                refine z_put (pc := 48) (ws' := rdw E r (rt 0) (.ref (rp 0)) (mrd S (nI (p2 + 1))) ++ tpw E rt ST ++ plw E rp (mpv SP (nI G2.length) o2 l2 r2)) F iX3 tyX3 tyX3_ok nmX3 0 rfl rfl 2 (by decide) tw_149 rfl rfl rfl (Nat.le_of_ble_eq_true rfl) dX3_readX_48 rfl ?_
                refine z_aload_n (pc := 51) F dX3_readX_51 rfl 0 rfl ?_
                refine z_get (pc := 52) (v := .ref (rp 0)) F iX3 0 rfl rfl 1 (by decide) tw_148 rfl dX3_readX_52 ?_
                refine z_iload (pc := 55) F dX3_readX_55 4 rfl ?_
                refine z_iload_n (pc := 57) F dX3_readX_57 rfl 2 rfl ?_
                refine z_aload_n (pc := 58) F dX3_readX_58 rfl 0 rfl ?_
                refine z_iload_n (pc := 59) F dX3_readX_59 rfl 1 rfl ?_
                obtain ⟨p3, c3, hh3⟩ := ps_6y hl kx; rcases hh3 with ⟨h3, e4⟩ | ⟨h3, R5, h5, e4⟩
                · have hlt2 : p2 < tp := sx_lt h0 (by omega)
                  have b3 : (p2 + 1) ≤ p3 ∧ ((p2 + 1) ≤ tp → p3 ≤ tp) := by have q_ := ps_b h0 _ _ _ _ _ (by decide) h3; exact ⟨q_.1, q_.2.1⟩
                  refine z_callVW (pc := 60) (q0 := 0) (ci := 3) (rest := [.int (nI j), .int (nI (sx p2)), .ref (rp 0)]) F (cC_n (ihS k' (by omega)) h3 (by omega) (by omega) (by omega) hho2) 1 ww_Reader_105 (by decide +kernel) rfl (by constructor <;> (dsimp only; omega)) ⟨Nat.le_of_ble_eq_true rfl, Nat.le_of_ble_eq_true rfl⟩ rfl rfl rfl rfl (Nat.le_of_ble_eq_true rfl) dX3_readX_60 (fun v_ w1_ hp => ?_)
                  obtain ⟨v3, G3, o3, l3, r3, rfl, rfl, hho3, hln3, hv3⟩ := hp
                  show Z X (0) (0) (rdw E r (rt 0) (.ref (rp 0)) (mrd S (nI p3)) ++ tpw E rt ST ++ plw E rp (mpv SP (nI G3.length) o3 l3 r3)) [(0, .ref (r 0)), (1, .int (nI op)), (2, .int (nI j)), (3, .int (nI i)), (4, .int (nI (sx p2)))] 63 [.int v3, .int (nI j), .int (nI (sx p2)), .ref (rp 0)]
                  rcases hv3 with hv3 | hv3
                  · subst hv3
                    refine z_callV (pc := 63) (q0 := 3) (ci := 2) (wr := rdw E r (rt 0) (.ref (rp 0)) (mrd S (nI p3)) ++ tpw E rt ST) (rest := []) F (c_X2_join_n l E rp (mpv SP (nI G3.length) o3 l3 r3) (nI (sx p2)) (nI j) (-1) (Or.inr rfl)) 3 [3, 4, 5, 6] [0, 1, 2] rfl rfl ⟨by decide, by decide, by decide⟩ ww_Reader_95 (by decide +kernel) rfl (by constructor <;> (dsimp only; omega)) ⟨Nat.le_of_ble_eq_true rfl, Nat.le_of_ble_eq_true rfl⟩ rfl rfl rfl rfl (Nat.le_of_ble_eq_true rfl) dX3_readX_63 (fun v_ w1_ hp => ?_)
                    obtain ⟨rfl, rfl⟩ := hp
                    show Z X (0) (0) (rdw E r (rt 0) (.ref (rp 0)) (mrd S (nI p3)) ++ tpw E rt ST ++ plw E rp (mpv SP (nI G3.length) o3 l3 r3)) [(0, .ref (r 0)), (1, .int (nI op)), (2, .int (nI j)), (3, .int (nI i)), (4, .int (nI (sx p2)))] 66 [.int (-1)]
                    refine z_istore_n (pc := 66) (lv' := [(0, .ref (r 0)), (1, .int (nI op)), (2, .int (-1)), (3, .int (nI i)), (4, .int (nI (sx p2)))]) F dX3_readX_66 rfl (by decide) [1, 2, 0, 3, 4] rfl ?_
                    refine z_iinc (pc := 67) (v := nI (i + 1)) (lv' := [(0, .ref (r 0)), (1, .int (nI op)), (2, .int (-1)), (3, .int (nI (i + 1))), (4, .int (nI (sx p2)))]) F (j := 3) dX3_readX_67 rfl (nI_1 _) (by decide) [1, 2, 3, 0, 4] rfl ?_
                    refine z_goto (pc := 70) (tgt := 8) F dX3_readX_70 (by decide) ?_
                    refine z_locals (lv' := [(0, .ref (r 0)), (1, .int (nI op)), (2, .int (-1)), (3, .int (nI (i + 1)))]) [0, 1, 2, 3] rfl ?_
                    subst e4; exact ih8 (i + 1) (-1) p3 G3 _ _ _ (by omega) (by omega) (by omega) (by omega) hho3 (Or.inr ⟨he1, he2, Or.inl rfl⟩)
                  · skip
                    refine z_callV (pc := 63) (q0 := 3) (ci := 2) (wr := rdw E r (rt 0) (.ref (rp 0)) (mrd S (nI p3)) ++ tpw E rt ST) (rest := []) F (c_X2_join_y l E rp (mpv SP (nI G3.length) o3 l3 r3) (G3.length) (nI (sx p2)) (nI j) v3 (by omega) rfl (nar_ch (hsx p2)) (nI_nm (by omega)) hv3.1) 3 [3, 4, 5, 6] [0, 1, 2] rfl rfl ⟨by decide, by decide, by decide⟩ ww_Reader_95 (by decide +kernel) rfl (by constructor <;> (dsimp only; omega)) ⟨Nat.le_of_ble_eq_true rfl, Nat.le_of_ble_eq_true rfl⟩ rfl rfl rfl rfl (Nat.le_of_ble_eq_true rfl) dX3_readX_63 (fun v_ w1_ hp => ?_)
                    obtain ⟨rfl, rfl⟩ := hp
                    show Z X (0) (0) (rdw E r (rt 0) (.ref (rp 0)) (mrd S (nI p3)) ++ tpw E rt ST ++ plw E rp (mpv SP (nI ((G3.length) + 1)) (upd o3 (G3.length) (nI (sx p2))) (upd l3 (G3.length) (nI j)) (upd r3 (G3.length) v3))) [(0, .ref (r 0)), (1, .int (nI op)), (2, .int (nI j)), (3, .int (nI i)), (4, .int (nI (sx p2)))] 66 [.int (nI (G3.length))]
                    refine z_istore_n (pc := 66) (lv' := [(0, .ref (r 0)), (1, .int (nI op)), (2, .int (nI (G3.length))), (3, .int (nI i)), (4, .int (nI (sx p2)))]) F dX3_readX_66 rfl (by decide) [1, 2, 0, 3, 4] rfl ?_
                    refine z_iinc (pc := 67) (v := nI (i + 1)) (lv' := [(0, .ref (r 0)), (1, .int (nI op)), (2, .int (nI (G3.length))), (3, .int (nI (i + 1))), (4, .int (nI (sx p2)))]) F (j := 3) dX3_readX_67 rfl (nI_1 _) (by decide) [1, 2, 3, 0, 4] rfl ?_
                    refine z_goto (pc := 70) (tgt := 8) F dX3_readX_70 (by decide) ?_
                    refine z_locals (lv' := [(0, .ref (r 0)), (1, .int (nI op)), (2, .int (nI (G3.length))), (3, .int (nI (i + 1)))]) [0, 1, 2, 3] rfl ?_
                    subst e4; rw [show G3.length + 1 = (G3 ++ [(sx p2, nI j, v3)]).length from (len_add _ _).symm]; have hA9 := hoN_add (c := sx p2) hho3 (c' := nI (sx p2)) (a := nI j) (b := v3) rfl; exact ih8 (i + 1) (nI G3.length) p3 (G3 ++ [(sx p2, nI j, v3)]) _ _ _ (by omega) (by omega) (by omega) (by rw [len_add]; omega) hA9 (Or.inr ⟨he1, he2, Or.inr ⟨nI_nm (by omega), hv3.2⟩⟩)
                · have hlt2 : p2 < tp := sx_lt h0 (by omega)
                  have b3 : (p2 + 1) ≤ p3 ∧ ((p2 + 1) ≤ tp → p3 ≤ tp) := by have q_ := ps_b h0 _ _ _ _ _ (by decide) h3; exact ⟨q_.1, q_.2.1⟩
                  refine z_callVW (pc := 60) (q0 := 0) (ci := 3) (rest := [.int (nI j), .int (nI (sx p2)), .ref (rp 0)]) F (cC_y (ihS k' (by omega)) h3 (by omega) (by omega) (by omega) hho2) 1 ww_Reader_105 (by decide +kernel) rfl (by constructor <;> (dsimp only; omega)) ⟨Nat.le_of_ble_eq_true rfl, Nat.le_of_ble_eq_true rfl⟩ rfl rfl rfl rfl (Nat.le_of_ble_eq_true rfl) dX3_readX_60 (fun v_ w1_ hp => ?_)
                  obtain ⟨j3, G3, o3, l3, r3, rfl, rfl, hho3, hln3, hj3, hB3⟩ := hp
                  show Z X (0) (0) (rdw E r (rt 0) (.ref (rp 0)) (mrd S (nI p3)) ++ tpw E rt ST ++ plw E rp (mpv SP (nI G3.length) o3 l3 r3)) [(0, .ref (r 0)), (1, .int (nI op)), (2, .int (nI j)), (3, .int (nI i)), (4, .int (nI (sx p2)))] 63 [.int (nI j3), .int (nI j), .int (nI (sx p2)), .ref (rp 0)]
                  refine z_callV (pc := 63) (q0 := 3) (ci := 2) (wr := rdw E r (rt 0) (.ref (rp 0)) (mrd S (nI p3)) ++ tpw E rt ST) (rest := []) F (c_X2_join_y l E rp (mpv SP (nI G3.length) o3 l3 r3) (G3.length) (nI (sx p2)) (nI j) (nI j3) (by omega) rfl (nar_ch (hsx p2)) (nI_nm (by omega)) (nI_nm (by omega))) 3 [3, 4, 5, 6] [0, 1, 2] rfl rfl ⟨by decide, by decide, by decide⟩ ww_Reader_95 (by decide +kernel) rfl (by constructor <;> (dsimp only; omega)) ⟨Nat.le_of_ble_eq_true rfl, Nat.le_of_ble_eq_true rfl⟩ rfl rfl rfl rfl (Nat.le_of_ble_eq_true rfl) dX3_readX_63 (fun v_ w1_ hp => ?_)
                  obtain ⟨rfl, rfl⟩ := hp
                  show Z X (0) (0) (rdw E r (rt 0) (.ref (rp 0)) (mrd S (nI p3)) ++ tpw E rt ST ++ plw E rp (mpv SP (nI ((G3.length) + 1)) (upd o3 (G3.length) (nI (sx p2))) (upd l3 (G3.length) (nI j)) (upd r3 (G3.length) (nI j3)))) [(0, .ref (r 0)), (1, .int (nI op)), (2, .int (nI j)), (3, .int (nI i)), (4, .int (nI (sx p2)))] 66 [.int (nI (G3.length))]
                  refine z_istore_n (pc := 66) (lv' := [(0, .ref (r 0)), (1, .int (nI op)), (2, .int (nI (G3.length))), (3, .int (nI i)), (4, .int (nI (sx p2)))]) F dX3_readX_66 rfl (by decide) [1, 2, 0, 3, 4] rfl ?_
                  refine z_iinc (pc := 67) (v := nI (i + 1)) (lv' := [(0, .ref (r 0)), (1, .int (nI op)), (2, .int (nI (G3.length))), (3, .int (nI (i + 1))), (4, .int (nI (sx p2)))]) F (j := 3) dX3_readX_67 rfl (nI_1 _) (by decide) [1, 2, 3, 0, 4] rfl ?_
                  refine z_goto (pc := 70) (tgt := 8) F dX3_readX_70 (by decide) ?_
                  refine z_locals (lv' := [(0, .ref (r 0)), (1, .int (nI op)), (2, .int (nI (G3.length))), (3, .int (nI (i + 1)))]) [0, 1, 2, 3] rfl ?_
                  subst e4; rw [show G3.length + 1 = (G3 ++ [(sx p2, nI j, nI j3)]).length from (len_add _ _).symm]; have hA9 := hoN_add (c := sx p2) hho3 (c' := nI (sx p2)) (a := nI j) (b := nI j3) rfl; exact ih8 (i + 1) (nI G3.length) p3 (G3 ++ [(sx p2, nI j, nI j3)]) _ _ _ (by omega) (by omega) (by omega) (by rw [len_add]; omega) hA9 (Or.inl ⟨G3.length, k', c0 ++ (c3 ++ [(addO (sx p2), 0)]), R5, rfl, by rw [len_add]; omega, by omega, h5, he1, he2, (by rw [List.append_assoc]; exact he3), by have h_ := BL_bin hB hB3 (f := addO (sx p2)) (addO_r _); rw [addO_c kx] at h_; exact h_⟩)
              · have k36 : ¬ sx p2 = 45 := fun h => c36 (by rw [h]; rfl)
                refine z_iload_n (pc := 39) F dX3_readX_39 rfl 2 rfl ?_
                exact z_iret (pc := 40) F hR dX3_readX_40 (Nat.le_of_ble_eq_true rfl) (Nat.le_of_ble_eq_true rfl) (by have e4 := ps_6n hl (by omega); subst e4; exact ce_y he1 he2 he3 hho2 hln2 rfl hj (BLc hB))
        · skip
          refine z_iload_n (pc := 8) F dX3_readX_8 rfl 3 rfl ?_
          rcases hv with hv | hv
          · subst hv
            refine z_bipush (pc := 9) (v := 80) F dX3_readX_9 (by decide) ?_
            refine z_icmp_ge (pc := 11) (tgt := 73) F dX3_readX_11 (by decide) (fun c11 => ?_) (fun c11 => ?_)
            · have hi80 := gI (a := 80) (by decide) (by omega) c11
              have hz2 : sx p2 = 0 := h0 p2 (by omega)
              refine z_iload_n (pc := 73) F dX3_readX_73 rfl 2 rfl ?_
              exact z_iret (pc := 74) F hR dX3_readX_74 (Nat.le_of_ble_eq_true rfl) (Nat.le_of_ble_eq_true rfl) (ce_n he1 he2 hho2 hln2 (Or.inl rfl))
            · have hi80 := ngI (a := 80) (by decide) (by omega) c11
              refine z_iload_n (pc := 14) F dX3_readX_14 rfl 2 rfl ?_
              refine z_iconst (pc := 15) (v := (-1)) F dX3_readX_15 (by decide) ?_
              refine z_icmp_eq (pc := 16) (tgt := 73) F dX3_readX_16 (by decide) (fun _ => ?_) (fun h => absurd h (by decide))
              refine z_iload_n (pc := 73) F dX3_readX_73 rfl 2 rfl ?_
              exact z_iret (pc := 74) F hR dX3_readX_74 (Nat.le_of_ble_eq_true rfl) (Nat.le_of_ble_eq_true rfl) (ce_n he1 he2 hho2 hln2 (Or.inl rfl))
          · skip
            refine z_bipush (pc := 9) (v := 80) F dX3_readX_9 (by decide) ?_
            refine z_icmp_ge (pc := 11) (tgt := 73) F dX3_readX_11 (by decide) (fun c11 => ?_) (fun c11 => ?_)
            · have hi80 := gI (a := 80) (by decide) (by omega) c11
              have hz2 : sx p2 = 0 := h0 p2 (by omega)
              refine z_iload_n (pc := 73) F dX3_readX_73 rfl 2 rfl ?_
              exact z_iret (pc := 74) F hR dX3_readX_74 (Nat.le_of_ble_eq_true rfl) (Nat.le_of_ble_eq_true rfl) (ce_n he1 he2 hho2 hln2 (Or.inr hv))
            · have hi80 := ngI (a := 80) (by decide) (by omega) c11
              refine z_iload_n (pc := 14) F dX3_readX_14 rfl 2 rfl ?_
              refine z_iconst (pc := 15) (v := (-1)) F dX3_readX_15 (by decide) ?_
              refine z_icmp_eq (pc := 16) (tgt := 73) F dX3_readX_16 (by decide) (fun c16 => absurd c16 hv.1) (fun c16 => ?_)
              refine z_aload_n (pc := 19) F dX3_readX_19 rfl 0 rfl ?_
              refine z_callVW (pc := 20) (q0 := 0) (ci := 3) (rest := []) F (c_X3_peek l E r rt rp S ST (mpv SP (nI G2.length) o2 l2 r2) tp sx p2 ht hp2) 0 ww_Reader_51 (by decide +kernel) rfl (by constructor <;> (dsimp only; omega)) ⟨Nat.le_of_ble_eq_true rfl, Nat.le_of_ble_eq_true rfl⟩ rfl rfl rfl rfl (Nat.le_of_ble_eq_true rfl) dX3_readX_20 (fun v_ w1_ hp => ?_)
              obtain ⟨rfl, rfl⟩ := hp
              show Z X (0) (0) (rdw E r (rt 0) (.ref (rp 0)) (mrd S (nI p2)) ++ tpw E rt ST ++ plw E rp (mpv SP (nI G2.length) o2 l2 r2)) [(0, .ref (r 0)), (1, .int (nI op)), (2, .int all), (3, .int (nI i))] 23 [.int (nI (sx p2))]
              refine z_istore (pc := 23) (lv' := [(0, .ref (r 0)), (1, .int (nI op)), (2, .int all), (3, .int (nI i)), (4, .int (nI (sx p2)))]) F dX3_readX_23 (by decide) [1, 2, 3, 4, 0] rfl ?_
              refine z_iload (pc := 25) F dX3_readX_25 4 rfl ?_
              refine z_bipush (pc := 27) (v := 43) F dX3_readX_27 (by decide) ?_
              refine z_icmp_eq (pc := 29) (tgt := 41) F dX3_readX_29 (by decide) (fun c29 => absurd c29 (fun h => isD_ne hv.2 (by decide) (nIe (b := 43) (by have := hsx p2; omega) (by decide) h))) (fun c29 => ?_)
              have k29 : ¬ sx p2 = 43 := fun h => c29 (by rw [h]; rfl)
              refine z_iload (pc := 32) F dX3_readX_32 4 rfl ?_
              refine z_bipush (pc := 34) (v := 45) F dX3_readX_34 (by decide) ?_
              refine z_icmp_eq (pc := 36) (tgt := 41) F dX3_readX_36 (by decide) (fun c36 => absurd c36 (fun h => isD_ne hv.2 (by decide) (nIe (b := 45) (by have := hsx p2; omega) (by decide) h))) (fun c36 => ?_)
              have k36 : ¬ sx p2 = 45 := fun h => c36 (by rw [h]; rfl)
              refine z_iload_n (pc := 39) F dX3_readX_39 rfl 2 rfl ?_
              exact z_iret (pc := 40) F hR dX3_readX_40 (Nat.le_of_ble_eq_true rfl) (Nat.le_of_ble_eq_true rfl) (ce_n he1 he2 hho2 hln2 (Or.inr hv))
    exact L8 _ 0 (nI j1) p1 G1 o1_ l1_ r1_ (Nat.lt_succ_self _) (Nat.zero_le _) (by omega) hln1 hho1 (Or.inl ⟨j1, n', c1, R2, rfl, hj1, Nat.le_refl _, h2, rfl, rfl, rfl, hB1⟩)
set_option maxHeartbeats 4000000 in
set_option maxRecDepth 100000 in
theorem c_X3_readTerm_p (l : Launch) (E : zE) (r : Nat → Nat) (rt : Nat → Nat) (rp : Nat → Nat) (S : zS) (ST : zS) (SP : zS) (tp : Nat) (sx : Nat → Nat) (n : Nat) (p : Nat) (op : Nat) (G : List zNd) (o1 : Nat → Int32) (l1 : Nat → Int32) (r1 : Nat → Int32) (R : zRs) (ht : tpC ST tp sx) (ihS : ∀ m : Nat, m < n → cC l E r rt rp S ST SP tp sx yX3_readFactor cX3_readFactor 4 (fun p op R => ps sx m 9 p op = some R) m) (hH : ps sx n 7 p op = some R) (hp : p ≤ tp) (hN : G.length ≤ p) (hop : op ≤ 12) (hho : hoN G o1 l1 r1) : Ct l yX3_readTerm cX3_readTerm 5 (some .int) (prc n) E (rdw E r (rt 0) (.ref (rp 0)) (mrd S (nI p)) ++ tpw E rt ST ++ plw E rp (mpv SP (nI G.length) o1 l1 r1)) [.ref (r 0), .int (nI op)] (fun v_ w_ => ∃ v : Int32, ∃ G' : List zNd, ∃ o' : Nat → Int32, ∃ l' : Nat → Int32, ∃ r' : Nat → Int32, v_ = some (.int v) ∧ w_ = rdw E r (rt 0) (.ref (rp 0)) (mrd S (nI R.2.1)) ++ tpw E rt ST ++ plw E rp (mpv SP (nI G'.length) o' l' r') ∧ (hoN G' o' l' r') ∧ (cFin sx G p R v G')) := by
  refine Ct.of (by decide) (Nat.le_of_ble_eq_true rfl) (lv := [(0, .ref (r 0)), (1, .int (nI op))]) rfl ?_
  intro X F hR
  have F : zF X l (prc n) E cX3_readTerm 5 "LiveQueries$Reader" := F
  have htp := ht.2.1
  have hsx := ht.2.2.2.2
  have h0 := ht.2.2.2.1
  obtain ⟨n', rfl⟩ : ∃ n', n = n' + 1 := by cases n with | zero => cases hH | succ n' => exact ⟨n', rfl⟩
  obtain ⟨p1, c1, hh⟩ := ps_two (sx := sx) (r1 := ps sx n' 9 p op) (g := fun p => ps sx n' 8 p op) hH
  rcases hh with ⟨h1, rfl⟩ | ⟨h1, R2, h2, rfl⟩
  · have b1 : p ≤ p1 ∧ (p ≤ tp → p1 ≤ tp) := by have q_ := ps_b h0 _ _ _ _ _ (by decide) h1; exact ⟨q_.1, q_.2.1⟩
    refine z_aload_n (pc := 0) F dX3_readTerm_0 rfl 0 rfl ?_
    refine z_iload_n (pc := 1) F dX3_readTerm_1 rfl 1 rfl ?_
    refine z_callVW (pc := 2) (q0 := 0) (ci := 3) (rest := []) F (cC_n (ihS n' (by omega)) h1 hp hN hop hho) 1 ww_Reader_108 (by decide +kernel) rfl (by constructor <;> (dsimp only; omega)) ⟨Nat.le_of_ble_eq_true rfl, Nat.le_of_ble_eq_true rfl⟩ rfl rfl rfl rfl (Nat.le_of_ble_eq_true rfl) dX3_readTerm_2 (fun v_ w1_ hp => ?_)
    obtain ⟨v1, G1, o1_, l1_, r1_, rfl, rfl, hho1, hln1, hv1⟩ := hp
    show Z X (0) (0) (rdw E r (rt 0) (.ref (rp 0)) (mrd S (nI p1)) ++ tpw E rt ST ++ plw E rp (mpv SP (nI G1.length) o1_ l1_ r1_)) [(0, .ref (r 0)), (1, .int (nI op))] 5 [.int v1]
    refine z_istore_n (pc := 5) (lv' := [(0, .ref (r 0)), (1, .int (nI op)), (2, .int v1)]) F dX3_readTerm_5 rfl (by decide) [1, 2, 0] rfl ?_
    refine z_iconst (pc := 6) (v := 0) F dX3_readTerm_6 (by decide) ?_
    refine z_istore_n (pc := 7) (lv' := [(0, .ref (r 0)), (1, .int (nI op)), (2, .int v1), (3, .int 0)]) F dX3_readTerm_7 rfl (by decide) [1, 2, 3, 0] rfl ?_
    have L8 : ∀ (N : Nat) (i : Nat) (all : Int32) (p2 : Nat) (G2 : List zNd) (o2 : Nat → Int32) (l2 : Nat → Int32) (r2 : Nat → Int32), (81 - i) < N → (i ≤ p2) → (p2 ≤ tp) → (G2.length + p ≤ G.length + p2) → (hoN G2 o2 l2 r2) → (cLp sx 8 op n' G G2 p2 all (false, p1, c1)) → Z X (0) (0) (rdw E r (rt 0) (.ref (rp 0)) (mrd S (nI p2)) ++ tpw E rt ST ++ plw E rp (mpv SP (nI G2.length) o2 l2 r2)) [(0, .ref (r 0)), (1, .int (nI op)), (2, .int all), (3, .int (nI i))] 8 [] := by
      intro N
      induction N with
      | zero => intro i all p2 G2 o2 l2 r2 hN; exact absurd hN (Nat.not_lt_zero _)
      | succ N ih8 =>
        intro i all p2 G2 o2 l2 r2 hN hi hp2 hln2 hho2 hD
        rcases hD with ⟨j, k, c0, R4, rfl, hj, hk, hl, he1, he2, he3, hB⟩ | ⟨he1, he2, hv⟩
        · obtain ⟨k', rfl⟩ : ∃ k', k = k' + 1 := by cases k with | zero => cases hl | succ k' => exact ⟨k', rfl⟩
          refine z_iload_n (pc := 8) F dX3_readTerm_8 rfl 3 rfl ?_
          refine z_bipush (pc := 9) (v := 80) F dX3_readTerm_9 (by decide) ?_
          refine z_icmp_ge (pc := 11) (tgt := 80) F dX3_readTerm_11 (by decide) (fun c11 => ?_) (fun c11 => ?_)
          · have hi80 := gI (a := 80) (by decide) (by omega) c11
            have hz2 : sx p2 = 0 := h0 p2 (by omega)
            refine z_iload_n (pc := 80) F dX3_readTerm_80 rfl 2 rfl ?_
            exact z_iret (pc := 81) F hR dX3_readTerm_81 (Nat.le_of_ble_eq_true rfl) (Nat.le_of_ble_eq_true rfl) (by have e4 := ps_8n hl (by omega); subst e4; exact ce_y he1 he2 he3 hho2 hln2 rfl hj (BLc hB))
          · have hi80 := ngI (a := 80) (by decide) (by omega) c11
            refine z_iload_n (pc := 14) F dX3_readTerm_14 rfl 2 rfl ?_
            refine z_iconst (pc := 15) (v := (-1)) F dX3_readTerm_15 (by decide) ?_
            refine z_icmp_eq (pc := 16) (tgt := 80) F dX3_readTerm_16 (by decide) (fun c16 => absurd c16 (nI_nm (by omega))) (fun c16 => ?_)
            refine z_aload_n (pc := 19) F dX3_readTerm_19 rfl 0 rfl ?_
            refine z_callVW (pc := 20) (q0 := 0) (ci := 3) (rest := []) F (c_X3_peek l E r rt rp S ST (mpv SP (nI G2.length) o2 l2 r2) tp sx p2 ht hp2) 0 ww_Reader_51 (by decide +kernel) rfl (by constructor <;> (dsimp only; omega)) ⟨Nat.le_of_ble_eq_true rfl, Nat.le_of_ble_eq_true rfl⟩ rfl rfl rfl rfl (Nat.le_of_ble_eq_true rfl) dX3_readTerm_20 (fun v_ w1_ hp => ?_)
            obtain ⟨rfl, rfl⟩ := hp
            show Z X (0) (0) (rdw E r (rt 0) (.ref (rp 0)) (mrd S (nI p2)) ++ tpw E rt ST ++ plw E rp (mpv SP (nI G2.length) o2 l2 r2)) [(0, .ref (r 0)), (1, .int (nI op)), (2, .int (nI j)), (3, .int (nI i))] 23 [.int (nI (sx p2))]
            refine z_istore (pc := 23) (lv' := [(0, .ref (r 0)), (1, .int (nI op)), (2, .int (nI j)), (3, .int (nI i)), (4, .int (nI (sx p2)))]) F dX3_readTerm_23 (by decide) [1, 2, 3, 4, 0] rfl ?_
            refine z_iload (pc := 25) F dX3_readTerm_25 4 rfl ?_
            refine z_bipush (pc := 27) (v := 42) F dX3_readTerm_27 (by decide) ?_
            refine z_icmp_eq (pc := 29) (tgt := 48) F dX3_readTerm_29 (by decide) (fun c29 => ?_) (fun c29 => ?_)
            · have k29 : sx p2 = 42 := nIe (b := 42) (by have := hsx (p2); omega) (by decide) c29
              have kx : sx p2 = 42 ∨ sx p2 = 47 ∨ sx p2 = 37 := by omega
              refine z_aload_n (pc := 48) F dX3_readTerm_48 rfl 0 rfl ?_
              refine z_dup (pc := 49) F dX3_readTerm_49 rfl ?_
              refine z_get (pc := 50) (v := .int (nI p2)) F iX3 0 rfl rfl 2 (by decide) tw_149 rfl dX3_readTerm_50 ?_
              refine z_iconst (pc := 53) (v := 1) F dX3_readTerm_53 (by decide) ?_
              refine z_iadd (pc := 54) F dX3_readTerm_54 ?_
              rw [show ((nI p2) + 1) = nI (p2 + 1) from (nI_1 _)]
              refine z_put (pc := 55) (ws' := rdw E r (rt 0) (.ref (rp 0)) (mrd S (nI (p2 + 1))) ++ tpw E rt ST ++ plw E rp (mpv SP (nI G2.length) o2 l2 r2)) F iX3 tyX3 tyX3_ok nmX3 0 rfl rfl 2 (by decide) tw_149 rfl rfl rfl (Nat.le_of_ble_eq_true rfl) dX3_readTerm_55 rfl ?_
              refine z_aload_n (pc := 58) F dX3_readTerm_58 rfl 0 rfl ?_
              refine z_get (pc := 59) (v := .ref (rp 0)) F iX3 0 rfl rfl 1 (by decide) tw_148 rfl dX3_readTerm_59 ?_
              refine z_iload (pc := 62) F dX3_readTerm_62 4 rfl ?_
              refine z_iload_n (pc := 64) F dX3_readTerm_64 rfl 2 rfl ?_
              refine z_aload_n (pc := 65) F dX3_readTerm_65 rfl 0 rfl ?_
              refine z_iload_n (pc := 66) F dX3_readTerm_66 rfl 1 rfl ?_
              obtain ⟨p3, c3, hh3⟩ := ps_8y hl kx; rcases hh3 with ⟨h3, e4⟩ | ⟨h3, R5, h5, e4⟩
              · have hlt2 : p2 < tp := sx_lt h0 (by omega)
                have b3 : (p2 + 1) ≤ p3 ∧ ((p2 + 1) ≤ tp → p3 ≤ tp) := by have q_ := ps_b h0 _ _ _ _ _ (by decide) h3; exact ⟨q_.1, q_.2.1⟩
                refine z_callVW (pc := 67) (q0 := 0) (ci := 3) (rest := [.int (nI j), .int (nI (sx p2)), .ref (rp 0)]) F (cC_n (ihS k' (by omega)) h3 (by omega) (by omega) (by omega) hho2) 1 ww_Reader_108 (by decide +kernel) rfl (by constructor <;> (dsimp only; omega)) ⟨Nat.le_of_ble_eq_true rfl, Nat.le_of_ble_eq_true rfl⟩ rfl rfl rfl rfl (Nat.le_of_ble_eq_true rfl) dX3_readTerm_67 (fun v_ w1_ hp => ?_)
                obtain ⟨v3, G3, o3, l3, r3, rfl, rfl, hho3, hln3, hv3⟩ := hp
                show Z X (0) (0) (rdw E r (rt 0) (.ref (rp 0)) (mrd S (nI p3)) ++ tpw E rt ST ++ plw E rp (mpv SP (nI G3.length) o3 l3 r3)) [(0, .ref (r 0)), (1, .int (nI op)), (2, .int (nI j)), (3, .int (nI i)), (4, .int (nI (sx p2)))] 70 [.int v3, .int (nI j), .int (nI (sx p2)), .ref (rp 0)]
                rcases hv3 with hv3 | hv3
                · subst hv3
                  refine z_callV (pc := 70) (q0 := 3) (ci := 2) (wr := rdw E r (rt 0) (.ref (rp 0)) (mrd S (nI p3)) ++ tpw E rt ST) (rest := []) F (c_X2_join_n l E rp (mpv SP (nI G3.length) o3 l3 r3) (nI (sx p2)) (nI j) (-1) (Or.inr rfl)) 3 [3, 4, 5, 6] [0, 1, 2] rfl rfl ⟨by decide, by decide, by decide⟩ ww_Reader_95 (by decide +kernel) rfl (by constructor <;> (dsimp only; omega)) ⟨Nat.le_of_ble_eq_true rfl, Nat.le_of_ble_eq_true rfl⟩ rfl rfl rfl rfl (Nat.le_of_ble_eq_true rfl) dX3_readTerm_70 (fun v_ w1_ hp => ?_)
                  obtain ⟨rfl, rfl⟩ := hp
                  show Z X (0) (0) (rdw E r (rt 0) (.ref (rp 0)) (mrd S (nI p3)) ++ tpw E rt ST ++ plw E rp (mpv SP (nI G3.length) o3 l3 r3)) [(0, .ref (r 0)), (1, .int (nI op)), (2, .int (nI j)), (3, .int (nI i)), (4, .int (nI (sx p2)))] 73 [.int (-1)]
                  refine z_istore_n (pc := 73) (lv' := [(0, .ref (r 0)), (1, .int (nI op)), (2, .int (-1)), (3, .int (nI i)), (4, .int (nI (sx p2)))]) F dX3_readTerm_73 rfl (by decide) [1, 2, 0, 3, 4] rfl ?_
                  refine z_iinc (pc := 74) (v := nI (i + 1)) (lv' := [(0, .ref (r 0)), (1, .int (nI op)), (2, .int (-1)), (3, .int (nI (i + 1))), (4, .int (nI (sx p2)))]) F (j := 3) dX3_readTerm_74 rfl (nI_1 _) (by decide) [1, 2, 3, 0, 4] rfl ?_
                  refine z_goto (pc := 77) (tgt := 8) F dX3_readTerm_77 (by decide) ?_
                  refine z_locals (lv' := [(0, .ref (r 0)), (1, .int (nI op)), (2, .int (-1)), (3, .int (nI (i + 1)))]) [0, 1, 2, 3] rfl ?_
                  subst e4; exact ih8 (i + 1) (-1) p3 G3 _ _ _ (by omega) (by omega) (by omega) (by omega) hho3 (Or.inr ⟨he1, he2, Or.inl rfl⟩)
                · skip
                  refine z_callV (pc := 70) (q0 := 3) (ci := 2) (wr := rdw E r (rt 0) (.ref (rp 0)) (mrd S (nI p3)) ++ tpw E rt ST) (rest := []) F (c_X2_join_y l E rp (mpv SP (nI G3.length) o3 l3 r3) (G3.length) (nI (sx p2)) (nI j) v3 (by omega) rfl (nar_ch (hsx p2)) (nI_nm (by omega)) hv3.1) 3 [3, 4, 5, 6] [0, 1, 2] rfl rfl ⟨by decide, by decide, by decide⟩ ww_Reader_95 (by decide +kernel) rfl (by constructor <;> (dsimp only; omega)) ⟨Nat.le_of_ble_eq_true rfl, Nat.le_of_ble_eq_true rfl⟩ rfl rfl rfl rfl (Nat.le_of_ble_eq_true rfl) dX3_readTerm_70 (fun v_ w1_ hp => ?_)
                  obtain ⟨rfl, rfl⟩ := hp
                  show Z X (0) (0) (rdw E r (rt 0) (.ref (rp 0)) (mrd S (nI p3)) ++ tpw E rt ST ++ plw E rp (mpv SP (nI ((G3.length) + 1)) (upd o3 (G3.length) (nI (sx p2))) (upd l3 (G3.length) (nI j)) (upd r3 (G3.length) v3))) [(0, .ref (r 0)), (1, .int (nI op)), (2, .int (nI j)), (3, .int (nI i)), (4, .int (nI (sx p2)))] 73 [.int (nI (G3.length))]
                  refine z_istore_n (pc := 73) (lv' := [(0, .ref (r 0)), (1, .int (nI op)), (2, .int (nI (G3.length))), (3, .int (nI i)), (4, .int (nI (sx p2)))]) F dX3_readTerm_73 rfl (by decide) [1, 2, 0, 3, 4] rfl ?_
                  refine z_iinc (pc := 74) (v := nI (i + 1)) (lv' := [(0, .ref (r 0)), (1, .int (nI op)), (2, .int (nI (G3.length))), (3, .int (nI (i + 1))), (4, .int (nI (sx p2)))]) F (j := 3) dX3_readTerm_74 rfl (nI_1 _) (by decide) [1, 2, 3, 0, 4] rfl ?_
                  refine z_goto (pc := 77) (tgt := 8) F dX3_readTerm_77 (by decide) ?_
                  refine z_locals (lv' := [(0, .ref (r 0)), (1, .int (nI op)), (2, .int (nI (G3.length))), (3, .int (nI (i + 1)))]) [0, 1, 2, 3] rfl ?_
                  subst e4; rw [show G3.length + 1 = (G3 ++ [(sx p2, nI j, v3)]).length from (len_add _ _).symm]; have hA9 := hoN_add (c := sx p2) hho3 (c' := nI (sx p2)) (a := nI j) (b := v3) rfl; exact ih8 (i + 1) (nI G3.length) p3 (G3 ++ [(sx p2, nI j, v3)]) _ _ _ (by omega) (by omega) (by omega) (by rw [len_add]; omega) hA9 (Or.inr ⟨he1, he2, Or.inr ⟨nI_nm (by omega), hv3.2⟩⟩)
              · have hlt2 : p2 < tp := sx_lt h0 (by omega)
                have b3 : (p2 + 1) ≤ p3 ∧ ((p2 + 1) ≤ tp → p3 ≤ tp) := by have q_ := ps_b h0 _ _ _ _ _ (by decide) h3; exact ⟨q_.1, q_.2.1⟩
                refine z_callVW (pc := 67) (q0 := 0) (ci := 3) (rest := [.int (nI j), .int (nI (sx p2)), .ref (rp 0)]) F (cC_y (ihS k' (by omega)) h3 (by omega) (by omega) (by omega) hho2) 1 ww_Reader_108 (by decide +kernel) rfl (by constructor <;> (dsimp only; omega)) ⟨Nat.le_of_ble_eq_true rfl, Nat.le_of_ble_eq_true rfl⟩ rfl rfl rfl rfl (Nat.le_of_ble_eq_true rfl) dX3_readTerm_67 (fun v_ w1_ hp => ?_)
                obtain ⟨j3, G3, o3, l3, r3, rfl, rfl, hho3, hln3, hj3, hB3⟩ := hp
                show Z X (0) (0) (rdw E r (rt 0) (.ref (rp 0)) (mrd S (nI p3)) ++ tpw E rt ST ++ plw E rp (mpv SP (nI G3.length) o3 l3 r3)) [(0, .ref (r 0)), (1, .int (nI op)), (2, .int (nI j)), (3, .int (nI i)), (4, .int (nI (sx p2)))] 70 [.int (nI j3), .int (nI j), .int (nI (sx p2)), .ref (rp 0)]
                refine z_callV (pc := 70) (q0 := 3) (ci := 2) (wr := rdw E r (rt 0) (.ref (rp 0)) (mrd S (nI p3)) ++ tpw E rt ST) (rest := []) F (c_X2_join_y l E rp (mpv SP (nI G3.length) o3 l3 r3) (G3.length) (nI (sx p2)) (nI j) (nI j3) (by omega) rfl (nar_ch (hsx p2)) (nI_nm (by omega)) (nI_nm (by omega))) 3 [3, 4, 5, 6] [0, 1, 2] rfl rfl ⟨by decide, by decide, by decide⟩ ww_Reader_95 (by decide +kernel) rfl (by constructor <;> (dsimp only; omega)) ⟨Nat.le_of_ble_eq_true rfl, Nat.le_of_ble_eq_true rfl⟩ rfl rfl rfl rfl (Nat.le_of_ble_eq_true rfl) dX3_readTerm_70 (fun v_ w1_ hp => ?_)
                obtain ⟨rfl, rfl⟩ := hp
                show Z X (0) (0) (rdw E r (rt 0) (.ref (rp 0)) (mrd S (nI p3)) ++ tpw E rt ST ++ plw E rp (mpv SP (nI ((G3.length) + 1)) (upd o3 (G3.length) (nI (sx p2))) (upd l3 (G3.length) (nI j)) (upd r3 (G3.length) (nI j3)))) [(0, .ref (r 0)), (1, .int (nI op)), (2, .int (nI j)), (3, .int (nI i)), (4, .int (nI (sx p2)))] 73 [.int (nI (G3.length))]
                refine z_istore_n (pc := 73) (lv' := [(0, .ref (r 0)), (1, .int (nI op)), (2, .int (nI (G3.length))), (3, .int (nI i)), (4, .int (nI (sx p2)))]) F dX3_readTerm_73 rfl (by decide) [1, 2, 0, 3, 4] rfl ?_
                refine z_iinc (pc := 74) (v := nI (i + 1)) (lv' := [(0, .ref (r 0)), (1, .int (nI op)), (2, .int (nI (G3.length))), (3, .int (nI (i + 1))), (4, .int (nI (sx p2)))]) F (j := 3) dX3_readTerm_74 rfl (nI_1 _) (by decide) [1, 2, 3, 0, 4] rfl ?_
                refine z_goto (pc := 77) (tgt := 8) F dX3_readTerm_77 (by decide) ?_
                refine z_locals (lv' := [(0, .ref (r 0)), (1, .int (nI op)), (2, .int (nI (G3.length))), (3, .int (nI (i + 1)))]) [0, 1, 2, 3] rfl ?_
                subst e4; rw [show G3.length + 1 = (G3 ++ [(sx p2, nI j, nI j3)]).length from (len_add _ _).symm]; have hA9 := hoN_add (c := sx p2) hho3 (c' := nI (sx p2)) (a := nI j) (b := nI j3) rfl; exact ih8 (i + 1) (nI G3.length) p3 (G3 ++ [(sx p2, nI j, nI j3)]) _ _ _ (by omega) (by omega) (by omega) (by rw [len_add]; omega) hA9 (Or.inl ⟨G3.length, k', c0 ++ (c3 ++ [(mulO (sx p2), 0)]), R5, rfl, by rw [len_add]; omega, by omega, h5, he1, he2, (by rw [List.append_assoc]; exact he3), by have h_ := BL_bin hB hB3 (f := mulO (sx p2)) (mulO_r _); rw [mulO_c kx] at h_; exact h_⟩)
            · have k29 : ¬ sx p2 = 42 := fun h => c29 (by rw [h]; rfl)
              refine z_iload (pc := 32) F dX3_readTerm_32 4 rfl ?_
              refine z_bipush (pc := 34) (v := 47) F dX3_readTerm_34 (by decide) ?_
              refine z_icmp_eq (pc := 36) (tgt := 48) F dX3_readTerm_36 (by decide) (fun c36 => ?_) (fun c36 => ?_)
              · have k36 : sx p2 = 47 := nIe (b := 47) (by have := hsx (p2); omega) (by decide) c36
                have kx : sx p2 = 42 ∨ sx p2 = 47 ∨ sx p2 = 37 := by omega
                refine z_aload_n (pc := 48) F dX3_readTerm_48 rfl 0 rfl ?_
                refine z_dup (pc := 49) F dX3_readTerm_49 rfl ?_
                refine z_get (pc := 50) (v := .int (nI p2)) F iX3 0 rfl rfl 2 (by decide) tw_149 rfl dX3_readTerm_50 ?_
                refine z_iconst (pc := 53) (v := 1) F dX3_readTerm_53 (by decide) ?_
                refine z_iadd (pc := 54) F dX3_readTerm_54 ?_
                rw [show ((nI p2) + 1) = nI (p2 + 1) from (nI_1 _)]
                refine z_put (pc := 55) (ws' := rdw E r (rt 0) (.ref (rp 0)) (mrd S (nI (p2 + 1))) ++ tpw E rt ST ++ plw E rp (mpv SP (nI G2.length) o2 l2 r2)) F iX3 tyX3 tyX3_ok nmX3 0 rfl rfl 2 (by decide) tw_149 rfl rfl rfl (Nat.le_of_ble_eq_true rfl) dX3_readTerm_55 rfl ?_
                refine z_aload_n (pc := 58) F dX3_readTerm_58 rfl 0 rfl ?_
                refine z_get (pc := 59) (v := .ref (rp 0)) F iX3 0 rfl rfl 1 (by decide) tw_148 rfl dX3_readTerm_59 ?_
                refine z_iload (pc := 62) F dX3_readTerm_62 4 rfl ?_
                refine z_iload_n (pc := 64) F dX3_readTerm_64 rfl 2 rfl ?_
                refine z_aload_n (pc := 65) F dX3_readTerm_65 rfl 0 rfl ?_
                refine z_iload_n (pc := 66) F dX3_readTerm_66 rfl 1 rfl ?_
                obtain ⟨p3, c3, hh3⟩ := ps_8y hl kx; rcases hh3 with ⟨h3, e4⟩ | ⟨h3, R5, h5, e4⟩
                · have hlt2 : p2 < tp := sx_lt h0 (by omega)
                  have b3 : (p2 + 1) ≤ p3 ∧ ((p2 + 1) ≤ tp → p3 ≤ tp) := by have q_ := ps_b h0 _ _ _ _ _ (by decide) h3; exact ⟨q_.1, q_.2.1⟩
                  refine z_callVW (pc := 67) (q0 := 0) (ci := 3) (rest := [.int (nI j), .int (nI (sx p2)), .ref (rp 0)]) F (cC_n (ihS k' (by omega)) h3 (by omega) (by omega) (by omega) hho2) 1 ww_Reader_108 (by decide +kernel) rfl (by constructor <;> (dsimp only; omega)) ⟨Nat.le_of_ble_eq_true rfl, Nat.le_of_ble_eq_true rfl⟩ rfl rfl rfl rfl (Nat.le_of_ble_eq_true rfl) dX3_readTerm_67 (fun v_ w1_ hp => ?_)
                  obtain ⟨v3, G3, o3, l3, r3, rfl, rfl, hho3, hln3, hv3⟩ := hp
                  show Z X (0) (0) (rdw E r (rt 0) (.ref (rp 0)) (mrd S (nI p3)) ++ tpw E rt ST ++ plw E rp (mpv SP (nI G3.length) o3 l3 r3)) [(0, .ref (r 0)), (1, .int (nI op)), (2, .int (nI j)), (3, .int (nI i)), (4, .int (nI (sx p2)))] 70 [.int v3, .int (nI j), .int (nI (sx p2)), .ref (rp 0)]
                  rcases hv3 with hv3 | hv3
                  · subst hv3
                    refine z_callV (pc := 70) (q0 := 3) (ci := 2) (wr := rdw E r (rt 0) (.ref (rp 0)) (mrd S (nI p3)) ++ tpw E rt ST) (rest := []) F (c_X2_join_n l E rp (mpv SP (nI G3.length) o3 l3 r3) (nI (sx p2)) (nI j) (-1) (Or.inr rfl)) 3 [3, 4, 5, 6] [0, 1, 2] rfl rfl ⟨by decide, by decide, by decide⟩ ww_Reader_95 (by decide +kernel) rfl (by constructor <;> (dsimp only; omega)) ⟨Nat.le_of_ble_eq_true rfl, Nat.le_of_ble_eq_true rfl⟩ rfl rfl rfl rfl (Nat.le_of_ble_eq_true rfl) dX3_readTerm_70 (fun v_ w1_ hp => ?_)
                    obtain ⟨rfl, rfl⟩ := hp
                    show Z X (0) (0) (rdw E r (rt 0) (.ref (rp 0)) (mrd S (nI p3)) ++ tpw E rt ST ++ plw E rp (mpv SP (nI G3.length) o3 l3 r3)) [(0, .ref (r 0)), (1, .int (nI op)), (2, .int (nI j)), (3, .int (nI i)), (4, .int (nI (sx p2)))] 73 [.int (-1)]
                    refine z_istore_n (pc := 73) (lv' := [(0, .ref (r 0)), (1, .int (nI op)), (2, .int (-1)), (3, .int (nI i)), (4, .int (nI (sx p2)))]) F dX3_readTerm_73 rfl (by decide) [1, 2, 0, 3, 4] rfl ?_
                    refine z_iinc (pc := 74) (v := nI (i + 1)) (lv' := [(0, .ref (r 0)), (1, .int (nI op)), (2, .int (-1)), (3, .int (nI (i + 1))), (4, .int (nI (sx p2)))]) F (j := 3) dX3_readTerm_74 rfl (nI_1 _) (by decide) [1, 2, 3, 0, 4] rfl ?_
                    refine z_goto (pc := 77) (tgt := 8) F dX3_readTerm_77 (by decide) ?_
                    refine z_locals (lv' := [(0, .ref (r 0)), (1, .int (nI op)), (2, .int (-1)), (3, .int (nI (i + 1)))]) [0, 1, 2, 3] rfl ?_
                    subst e4; exact ih8 (i + 1) (-1) p3 G3 _ _ _ (by omega) (by omega) (by omega) (by omega) hho3 (Or.inr ⟨he1, he2, Or.inl rfl⟩)
                  · skip
                    refine z_callV (pc := 70) (q0 := 3) (ci := 2) (wr := rdw E r (rt 0) (.ref (rp 0)) (mrd S (nI p3)) ++ tpw E rt ST) (rest := []) F (c_X2_join_y l E rp (mpv SP (nI G3.length) o3 l3 r3) (G3.length) (nI (sx p2)) (nI j) v3 (by omega) rfl (nar_ch (hsx p2)) (nI_nm (by omega)) hv3.1) 3 [3, 4, 5, 6] [0, 1, 2] rfl rfl ⟨by decide, by decide, by decide⟩ ww_Reader_95 (by decide +kernel) rfl (by constructor <;> (dsimp only; omega)) ⟨Nat.le_of_ble_eq_true rfl, Nat.le_of_ble_eq_true rfl⟩ rfl rfl rfl rfl (Nat.le_of_ble_eq_true rfl) dX3_readTerm_70 (fun v_ w1_ hp => ?_)
                    obtain ⟨rfl, rfl⟩ := hp
                    show Z X (0) (0) (rdw E r (rt 0) (.ref (rp 0)) (mrd S (nI p3)) ++ tpw E rt ST ++ plw E rp (mpv SP (nI ((G3.length) + 1)) (upd o3 (G3.length) (nI (sx p2))) (upd l3 (G3.length) (nI j)) (upd r3 (G3.length) v3))) [(0, .ref (r 0)), (1, .int (nI op)), (2, .int (nI j)), (3, .int (nI i)), (4, .int (nI (sx p2)))] 73 [.int (nI (G3.length))]
                    refine z_istore_n (pc := 73) (lv' := [(0, .ref (r 0)), (1, .int (nI op)), (2, .int (nI (G3.length))), (3, .int (nI i)), (4, .int (nI (sx p2)))]) F dX3_readTerm_73 rfl (by decide) [1, 2, 0, 3, 4] rfl ?_
                    refine z_iinc (pc := 74) (v := nI (i + 1)) (lv' := [(0, .ref (r 0)), (1, .int (nI op)), (2, .int (nI (G3.length))), (3, .int (nI (i + 1))), (4, .int (nI (sx p2)))]) F (j := 3) dX3_readTerm_74 rfl (nI_1 _) (by decide) [1, 2, 3, 0, 4] rfl ?_
                    refine z_goto (pc := 77) (tgt := 8) F dX3_readTerm_77 (by decide) ?_
                    refine z_locals (lv' := [(0, .ref (r 0)), (1, .int (nI op)), (2, .int (nI (G3.length))), (3, .int (nI (i + 1)))]) [0, 1, 2, 3] rfl ?_
                    subst e4; rw [show G3.length + 1 = (G3 ++ [(sx p2, nI j, v3)]).length from (len_add _ _).symm]; have hA9 := hoN_add (c := sx p2) hho3 (c' := nI (sx p2)) (a := nI j) (b := v3) rfl; exact ih8 (i + 1) (nI G3.length) p3 (G3 ++ [(sx p2, nI j, v3)]) _ _ _ (by omega) (by omega) (by omega) (by rw [len_add]; omega) hA9 (Or.inr ⟨he1, he2, Or.inr ⟨nI_nm (by omega), hv3.2⟩⟩)
                · have hlt2 : p2 < tp := sx_lt h0 (by omega)
                  have b3 : (p2 + 1) ≤ p3 ∧ ((p2 + 1) ≤ tp → p3 ≤ tp) := by have q_ := ps_b h0 _ _ _ _ _ (by decide) h3; exact ⟨q_.1, q_.2.1⟩
                  refine z_callVW (pc := 67) (q0 := 0) (ci := 3) (rest := [.int (nI j), .int (nI (sx p2)), .ref (rp 0)]) F (cC_y (ihS k' (by omega)) h3 (by omega) (by omega) (by omega) hho2) 1 ww_Reader_108 (by decide +kernel) rfl (by constructor <;> (dsimp only; omega)) ⟨Nat.le_of_ble_eq_true rfl, Nat.le_of_ble_eq_true rfl⟩ rfl rfl rfl rfl (Nat.le_of_ble_eq_true rfl) dX3_readTerm_67 (fun v_ w1_ hp => ?_)
                  obtain ⟨j3, G3, o3, l3, r3, rfl, rfl, hho3, hln3, hj3, hB3⟩ := hp
                  show Z X (0) (0) (rdw E r (rt 0) (.ref (rp 0)) (mrd S (nI p3)) ++ tpw E rt ST ++ plw E rp (mpv SP (nI G3.length) o3 l3 r3)) [(0, .ref (r 0)), (1, .int (nI op)), (2, .int (nI j)), (3, .int (nI i)), (4, .int (nI (sx p2)))] 70 [.int (nI j3), .int (nI j), .int (nI (sx p2)), .ref (rp 0)]
                  refine z_callV (pc := 70) (q0 := 3) (ci := 2) (wr := rdw E r (rt 0) (.ref (rp 0)) (mrd S (nI p3)) ++ tpw E rt ST) (rest := []) F (c_X2_join_y l E rp (mpv SP (nI G3.length) o3 l3 r3) (G3.length) (nI (sx p2)) (nI j) (nI j3) (by omega) rfl (nar_ch (hsx p2)) (nI_nm (by omega)) (nI_nm (by omega))) 3 [3, 4, 5, 6] [0, 1, 2] rfl rfl ⟨by decide, by decide, by decide⟩ ww_Reader_95 (by decide +kernel) rfl (by constructor <;> (dsimp only; omega)) ⟨Nat.le_of_ble_eq_true rfl, Nat.le_of_ble_eq_true rfl⟩ rfl rfl rfl rfl (Nat.le_of_ble_eq_true rfl) dX3_readTerm_70 (fun v_ w1_ hp => ?_)
                  obtain ⟨rfl, rfl⟩ := hp
                  show Z X (0) (0) (rdw E r (rt 0) (.ref (rp 0)) (mrd S (nI p3)) ++ tpw E rt ST ++ plw E rp (mpv SP (nI ((G3.length) + 1)) (upd o3 (G3.length) (nI (sx p2))) (upd l3 (G3.length) (nI j)) (upd r3 (G3.length) (nI j3)))) [(0, .ref (r 0)), (1, .int (nI op)), (2, .int (nI j)), (3, .int (nI i)), (4, .int (nI (sx p2)))] 73 [.int (nI (G3.length))]
                  refine z_istore_n (pc := 73) (lv' := [(0, .ref (r 0)), (1, .int (nI op)), (2, .int (nI (G3.length))), (3, .int (nI i)), (4, .int (nI (sx p2)))]) F dX3_readTerm_73 rfl (by decide) [1, 2, 0, 3, 4] rfl ?_
                  refine z_iinc (pc := 74) (v := nI (i + 1)) (lv' := [(0, .ref (r 0)), (1, .int (nI op)), (2, .int (nI (G3.length))), (3, .int (nI (i + 1))), (4, .int (nI (sx p2)))]) F (j := 3) dX3_readTerm_74 rfl (nI_1 _) (by decide) [1, 2, 3, 0, 4] rfl ?_
                  refine z_goto (pc := 77) (tgt := 8) F dX3_readTerm_77 (by decide) ?_
                  refine z_locals (lv' := [(0, .ref (r 0)), (1, .int (nI op)), (2, .int (nI (G3.length))), (3, .int (nI (i + 1)))]) [0, 1, 2, 3] rfl ?_
                  subst e4; rw [show G3.length + 1 = (G3 ++ [(sx p2, nI j, nI j3)]).length from (len_add _ _).symm]; have hA9 := hoN_add (c := sx p2) hho3 (c' := nI (sx p2)) (a := nI j) (b := nI j3) rfl; exact ih8 (i + 1) (nI G3.length) p3 (G3 ++ [(sx p2, nI j, nI j3)]) _ _ _ (by omega) (by omega) (by omega) (by rw [len_add]; omega) hA9 (Or.inl ⟨G3.length, k', c0 ++ (c3 ++ [(mulO (sx p2), 0)]), R5, rfl, by rw [len_add]; omega, by omega, h5, he1, he2, (by rw [List.append_assoc]; exact he3), by have h_ := BL_bin hB hB3 (f := mulO (sx p2)) (mulO_r _); rw [mulO_c kx] at h_; exact h_⟩)
              · have k36 : ¬ sx p2 = 47 := fun h => c36 (by rw [h]; rfl)
                refine z_iload (pc := 39) F dX3_readTerm_39 4 rfl ?_
                refine z_bipush (pc := 41) (v := 37) F dX3_readTerm_41 (by decide) ?_
                refine z_icmp_eq (pc := 43) (tgt := 48) F dX3_readTerm_43 (by decide) (fun c43 => ?_) (fun c43 => ?_)
                · have k43 : sx p2 = 37 := nIe (b := 37) (by have := hsx (p2); omega) (by decide) c43
                  have kx : sx p2 = 42 ∨ sx p2 = 47 ∨ sx p2 = 37 := by omega
                  refine z_aload_n (pc := 48) F dX3_readTerm_48 rfl 0 rfl ?_
                  refine z_dup (pc := 49) F dX3_readTerm_49 rfl ?_
                  refine z_get (pc := 50) (v := .int (nI p2)) F iX3 0 rfl rfl 2 (by decide) tw_149 rfl dX3_readTerm_50 ?_
                  refine z_iconst (pc := 53) (v := 1) F dX3_readTerm_53 (by decide) ?_
                  refine z_iadd (pc := 54) F dX3_readTerm_54 ?_
                  rw [show ((nI p2) + 1) = nI (p2 + 1) from (nI_1 _)]
                  refine z_put (pc := 55) (ws' := rdw E r (rt 0) (.ref (rp 0)) (mrd S (nI (p2 + 1))) ++ tpw E rt ST ++ plw E rp (mpv SP (nI G2.length) o2 l2 r2)) F iX3 tyX3 tyX3_ok nmX3 0 rfl rfl 2 (by decide) tw_149 rfl rfl rfl (Nat.le_of_ble_eq_true rfl) dX3_readTerm_55 rfl ?_
                  refine z_aload_n (pc := 58) F dX3_readTerm_58 rfl 0 rfl ?_
                  refine z_get (pc := 59) (v := .ref (rp 0)) F iX3 0 rfl rfl 1 (by decide) tw_148 rfl dX3_readTerm_59 ?_
                  refine z_iload (pc := 62) F dX3_readTerm_62 4 rfl ?_
                  refine z_iload_n (pc := 64) F dX3_readTerm_64 rfl 2 rfl ?_
                  refine z_aload_n (pc := 65) F dX3_readTerm_65 rfl 0 rfl ?_
                  refine z_iload_n (pc := 66) F dX3_readTerm_66 rfl 1 rfl ?_
                  obtain ⟨p3, c3, hh3⟩ := ps_8y hl kx; rcases hh3 with ⟨h3, e4⟩ | ⟨h3, R5, h5, e4⟩
                  · have hlt2 : p2 < tp := sx_lt h0 (by omega)
                    have b3 : (p2 + 1) ≤ p3 ∧ ((p2 + 1) ≤ tp → p3 ≤ tp) := by have q_ := ps_b h0 _ _ _ _ _ (by decide) h3; exact ⟨q_.1, q_.2.1⟩
                    refine z_callVW (pc := 67) (q0 := 0) (ci := 3) (rest := [.int (nI j), .int (nI (sx p2)), .ref (rp 0)]) F (cC_n (ihS k' (by omega)) h3 (by omega) (by omega) (by omega) hho2) 1 ww_Reader_108 (by decide +kernel) rfl (by constructor <;> (dsimp only; omega)) ⟨Nat.le_of_ble_eq_true rfl, Nat.le_of_ble_eq_true rfl⟩ rfl rfl rfl rfl (Nat.le_of_ble_eq_true rfl) dX3_readTerm_67 (fun v_ w1_ hp => ?_)
                    obtain ⟨v3, G3, o3, l3, r3, rfl, rfl, hho3, hln3, hv3⟩ := hp
                    show Z X (0) (0) (rdw E r (rt 0) (.ref (rp 0)) (mrd S (nI p3)) ++ tpw E rt ST ++ plw E rp (mpv SP (nI G3.length) o3 l3 r3)) [(0, .ref (r 0)), (1, .int (nI op)), (2, .int (nI j)), (3, .int (nI i)), (4, .int (nI (sx p2)))] 70 [.int v3, .int (nI j), .int (nI (sx p2)), .ref (rp 0)]
                    rcases hv3 with hv3 | hv3
                    · subst hv3
                      refine z_callV (pc := 70) (q0 := 3) (ci := 2) (wr := rdw E r (rt 0) (.ref (rp 0)) (mrd S (nI p3)) ++ tpw E rt ST) (rest := []) F (c_X2_join_n l E rp (mpv SP (nI G3.length) o3 l3 r3) (nI (sx p2)) (nI j) (-1) (Or.inr rfl)) 3 [3, 4, 5, 6] [0, 1, 2] rfl rfl ⟨by decide, by decide, by decide⟩ ww_Reader_95 (by decide +kernel) rfl (by constructor <;> (dsimp only; omega)) ⟨Nat.le_of_ble_eq_true rfl, Nat.le_of_ble_eq_true rfl⟩ rfl rfl rfl rfl (Nat.le_of_ble_eq_true rfl) dX3_readTerm_70 (fun v_ w1_ hp => ?_)
                      obtain ⟨rfl, rfl⟩ := hp
                      show Z X (0) (0) (rdw E r (rt 0) (.ref (rp 0)) (mrd S (nI p3)) ++ tpw E rt ST ++ plw E rp (mpv SP (nI G3.length) o3 l3 r3)) [(0, .ref (r 0)), (1, .int (nI op)), (2, .int (nI j)), (3, .int (nI i)), (4, .int (nI (sx p2)))] 73 [.int (-1)]
                      refine z_istore_n (pc := 73) (lv' := [(0, .ref (r 0)), (1, .int (nI op)), (2, .int (-1)), (3, .int (nI i)), (4, .int (nI (sx p2)))]) F dX3_readTerm_73 rfl (by decide) [1, 2, 0, 3, 4] rfl ?_
                      refine z_iinc (pc := 74) (v := nI (i + 1)) (lv' := [(0, .ref (r 0)), (1, .int (nI op)), (2, .int (-1)), (3, .int (nI (i + 1))), (4, .int (nI (sx p2)))]) F (j := 3) dX3_readTerm_74 rfl (nI_1 _) (by decide) [1, 2, 3, 0, 4] rfl ?_
                      refine z_goto (pc := 77) (tgt := 8) F dX3_readTerm_77 (by decide) ?_
                      refine z_locals (lv' := [(0, .ref (r 0)), (1, .int (nI op)), (2, .int (-1)), (3, .int (nI (i + 1)))]) [0, 1, 2, 3] rfl ?_
                      subst e4; exact ih8 (i + 1) (-1) p3 G3 _ _ _ (by omega) (by omega) (by omega) (by omega) hho3 (Or.inr ⟨he1, he2, Or.inl rfl⟩)
                    · skip
                      refine z_callV (pc := 70) (q0 := 3) (ci := 2) (wr := rdw E r (rt 0) (.ref (rp 0)) (mrd S (nI p3)) ++ tpw E rt ST) (rest := []) F (c_X2_join_y l E rp (mpv SP (nI G3.length) o3 l3 r3) (G3.length) (nI (sx p2)) (nI j) v3 (by omega) rfl (nar_ch (hsx p2)) (nI_nm (by omega)) hv3.1) 3 [3, 4, 5, 6] [0, 1, 2] rfl rfl ⟨by decide, by decide, by decide⟩ ww_Reader_95 (by decide +kernel) rfl (by constructor <;> (dsimp only; omega)) ⟨Nat.le_of_ble_eq_true rfl, Nat.le_of_ble_eq_true rfl⟩ rfl rfl rfl rfl (Nat.le_of_ble_eq_true rfl) dX3_readTerm_70 (fun v_ w1_ hp => ?_)
                      obtain ⟨rfl, rfl⟩ := hp
                      show Z X (0) (0) (rdw E r (rt 0) (.ref (rp 0)) (mrd S (nI p3)) ++ tpw E rt ST ++ plw E rp (mpv SP (nI ((G3.length) + 1)) (upd o3 (G3.length) (nI (sx p2))) (upd l3 (G3.length) (nI j)) (upd r3 (G3.length) v3))) [(0, .ref (r 0)), (1, .int (nI op)), (2, .int (nI j)), (3, .int (nI i)), (4, .int (nI (sx p2)))] 73 [.int (nI (G3.length))]
                      refine z_istore_n (pc := 73) (lv' := [(0, .ref (r 0)), (1, .int (nI op)), (2, .int (nI (G3.length))), (3, .int (nI i)), (4, .int (nI (sx p2)))]) F dX3_readTerm_73 rfl (by decide) [1, 2, 0, 3, 4] rfl ?_
                      refine z_iinc (pc := 74) (v := nI (i + 1)) (lv' := [(0, .ref (r 0)), (1, .int (nI op)), (2, .int (nI (G3.length))), (3, .int (nI (i + 1))), (4, .int (nI (sx p2)))]) F (j := 3) dX3_readTerm_74 rfl (nI_1 _) (by decide) [1, 2, 3, 0, 4] rfl ?_
                      refine z_goto (pc := 77) (tgt := 8) F dX3_readTerm_77 (by decide) ?_
                      refine z_locals (lv' := [(0, .ref (r 0)), (1, .int (nI op)), (2, .int (nI (G3.length))), (3, .int (nI (i + 1)))]) [0, 1, 2, 3] rfl ?_
                      subst e4; rw [show G3.length + 1 = (G3 ++ [(sx p2, nI j, v3)]).length from (len_add _ _).symm]; have hA9 := hoN_add (c := sx p2) hho3 (c' := nI (sx p2)) (a := nI j) (b := v3) rfl; exact ih8 (i + 1) (nI G3.length) p3 (G3 ++ [(sx p2, nI j, v3)]) _ _ _ (by omega) (by omega) (by omega) (by rw [len_add]; omega) hA9 (Or.inr ⟨he1, he2, Or.inr ⟨nI_nm (by omega), hv3.2⟩⟩)
                  · have hlt2 : p2 < tp := sx_lt h0 (by omega)
                    have b3 : (p2 + 1) ≤ p3 ∧ ((p2 + 1) ≤ tp → p3 ≤ tp) := by have q_ := ps_b h0 _ _ _ _ _ (by decide) h3; exact ⟨q_.1, q_.2.1⟩
                    refine z_callVW (pc := 67) (q0 := 0) (ci := 3) (rest := [.int (nI j), .int (nI (sx p2)), .ref (rp 0)]) F (cC_y (ihS k' (by omega)) h3 (by omega) (by omega) (by omega) hho2) 1 ww_Reader_108 (by decide +kernel) rfl (by constructor <;> (dsimp only; omega)) ⟨Nat.le_of_ble_eq_true rfl, Nat.le_of_ble_eq_true rfl⟩ rfl rfl rfl rfl (Nat.le_of_ble_eq_true rfl) dX3_readTerm_67 (fun v_ w1_ hp => ?_)
                    obtain ⟨j3, G3, o3, l3, r3, rfl, rfl, hho3, hln3, hj3, hB3⟩ := hp
                    show Z X (0) (0) (rdw E r (rt 0) (.ref (rp 0)) (mrd S (nI p3)) ++ tpw E rt ST ++ plw E rp (mpv SP (nI G3.length) o3 l3 r3)) [(0, .ref (r 0)), (1, .int (nI op)), (2, .int (nI j)), (3, .int (nI i)), (4, .int (nI (sx p2)))] 70 [.int (nI j3), .int (nI j), .int (nI (sx p2)), .ref (rp 0)]
                    refine z_callV (pc := 70) (q0 := 3) (ci := 2) (wr := rdw E r (rt 0) (.ref (rp 0)) (mrd S (nI p3)) ++ tpw E rt ST) (rest := []) F (c_X2_join_y l E rp (mpv SP (nI G3.length) o3 l3 r3) (G3.length) (nI (sx p2)) (nI j) (nI j3) (by omega) rfl (nar_ch (hsx p2)) (nI_nm (by omega)) (nI_nm (by omega))) 3 [3, 4, 5, 6] [0, 1, 2] rfl rfl ⟨by decide, by decide, by decide⟩ ww_Reader_95 (by decide +kernel) rfl (by constructor <;> (dsimp only; omega)) ⟨Nat.le_of_ble_eq_true rfl, Nat.le_of_ble_eq_true rfl⟩ rfl rfl rfl rfl (Nat.le_of_ble_eq_true rfl) dX3_readTerm_70 (fun v_ w1_ hp => ?_)
                    obtain ⟨rfl, rfl⟩ := hp
                    show Z X (0) (0) (rdw E r (rt 0) (.ref (rp 0)) (mrd S (nI p3)) ++ tpw E rt ST ++ plw E rp (mpv SP (nI ((G3.length) + 1)) (upd o3 (G3.length) (nI (sx p2))) (upd l3 (G3.length) (nI j)) (upd r3 (G3.length) (nI j3)))) [(0, .ref (r 0)), (1, .int (nI op)), (2, .int (nI j)), (3, .int (nI i)), (4, .int (nI (sx p2)))] 73 [.int (nI (G3.length))]
                    refine z_istore_n (pc := 73) (lv' := [(0, .ref (r 0)), (1, .int (nI op)), (2, .int (nI (G3.length))), (3, .int (nI i)), (4, .int (nI (sx p2)))]) F dX3_readTerm_73 rfl (by decide) [1, 2, 0, 3, 4] rfl ?_
                    refine z_iinc (pc := 74) (v := nI (i + 1)) (lv' := [(0, .ref (r 0)), (1, .int (nI op)), (2, .int (nI (G3.length))), (3, .int (nI (i + 1))), (4, .int (nI (sx p2)))]) F (j := 3) dX3_readTerm_74 rfl (nI_1 _) (by decide) [1, 2, 3, 0, 4] rfl ?_
                    refine z_goto (pc := 77) (tgt := 8) F dX3_readTerm_77 (by decide) ?_
                    refine z_locals (lv' := [(0, .ref (r 0)), (1, .int (nI op)), (2, .int (nI (G3.length))), (3, .int (nI (i + 1)))]) [0, 1, 2, 3] rfl ?_
                    subst e4; rw [show G3.length + 1 = (G3 ++ [(sx p2, nI j, nI j3)]).length from (len_add _ _).symm]; have hA9 := hoN_add (c := sx p2) hho3 (c' := nI (sx p2)) (a := nI j) (b := nI j3) rfl; exact ih8 (i + 1) (nI G3.length) p3 (G3 ++ [(sx p2, nI j, nI j3)]) _ _ _ (by omega) (by omega) (by omega) (by rw [len_add]; omega) hA9 (Or.inl ⟨G3.length, k', c0 ++ (c3 ++ [(mulO (sx p2), 0)]), R5, rfl, by rw [len_add]; omega, by omega, h5, he1, he2, (by rw [List.append_assoc]; exact he3), by have h_ := BL_bin hB hB3 (f := mulO (sx p2)) (mulO_r _); rw [mulO_c kx] at h_; exact h_⟩)
                · have k43 : ¬ sx p2 = 37 := fun h => c43 (by rw [h]; rfl)
                  refine z_iload_n (pc := 46) F dX3_readTerm_46 rfl 2 rfl ?_
                  exact z_iret (pc := 47) F hR dX3_readTerm_47 (Nat.le_of_ble_eq_true rfl) (Nat.le_of_ble_eq_true rfl) (by have e4 := ps_8n hl (by omega); subst e4; exact ce_y he1 he2 he3 hho2 hln2 rfl hj (BLc hB))
        · skip
          refine z_iload_n (pc := 8) F dX3_readTerm_8 rfl 3 rfl ?_
          rcases hv with hv | hv
          · subst hv
            refine z_bipush (pc := 9) (v := 80) F dX3_readTerm_9 (by decide) ?_
            refine z_icmp_ge (pc := 11) (tgt := 80) F dX3_readTerm_11 (by decide) (fun c11 => ?_) (fun c11 => ?_)
            · have hi80 := gI (a := 80) (by decide) (by omega) c11
              have hz2 : sx p2 = 0 := h0 p2 (by omega)
              refine z_iload_n (pc := 80) F dX3_readTerm_80 rfl 2 rfl ?_
              exact z_iret (pc := 81) F hR dX3_readTerm_81 (Nat.le_of_ble_eq_true rfl) (Nat.le_of_ble_eq_true rfl) (ce_n he1 he2 hho2 hln2 (Or.inl rfl))
            · have hi80 := ngI (a := 80) (by decide) (by omega) c11
              refine z_iload_n (pc := 14) F dX3_readTerm_14 rfl 2 rfl ?_
              refine z_iconst (pc := 15) (v := (-1)) F dX3_readTerm_15 (by decide) ?_
              refine z_icmp_eq (pc := 16) (tgt := 80) F dX3_readTerm_16 (by decide) (fun _ => ?_) (fun h => absurd h (by decide))
              refine z_iload_n (pc := 80) F dX3_readTerm_80 rfl 2 rfl ?_
              exact z_iret (pc := 81) F hR dX3_readTerm_81 (Nat.le_of_ble_eq_true rfl) (Nat.le_of_ble_eq_true rfl) (ce_n he1 he2 hho2 hln2 (Or.inl rfl))
          · skip
            refine z_bipush (pc := 9) (v := 80) F dX3_readTerm_9 (by decide) ?_
            refine z_icmp_ge (pc := 11) (tgt := 80) F dX3_readTerm_11 (by decide) (fun c11 => ?_) (fun c11 => ?_)
            · have hi80 := gI (a := 80) (by decide) (by omega) c11
              have hz2 : sx p2 = 0 := h0 p2 (by omega)
              refine z_iload_n (pc := 80) F dX3_readTerm_80 rfl 2 rfl ?_
              exact z_iret (pc := 81) F hR dX3_readTerm_81 (Nat.le_of_ble_eq_true rfl) (Nat.le_of_ble_eq_true rfl) (ce_n he1 he2 hho2 hln2 (Or.inr hv))
            · have hi80 := ngI (a := 80) (by decide) (by omega) c11
              refine z_iload_n (pc := 14) F dX3_readTerm_14 rfl 2 rfl ?_
              refine z_iconst (pc := 15) (v := (-1)) F dX3_readTerm_15 (by decide) ?_
              refine z_icmp_eq (pc := 16) (tgt := 80) F dX3_readTerm_16 (by decide) (fun c16 => absurd c16 hv.1) (fun c16 => ?_)
              refine z_aload_n (pc := 19) F dX3_readTerm_19 rfl 0 rfl ?_
              refine z_callVW (pc := 20) (q0 := 0) (ci := 3) (rest := []) F (c_X3_peek l E r rt rp S ST (mpv SP (nI G2.length) o2 l2 r2) tp sx p2 ht hp2) 0 ww_Reader_51 (by decide +kernel) rfl (by constructor <;> (dsimp only; omega)) ⟨Nat.le_of_ble_eq_true rfl, Nat.le_of_ble_eq_true rfl⟩ rfl rfl rfl rfl (Nat.le_of_ble_eq_true rfl) dX3_readTerm_20 (fun v_ w1_ hp => ?_)
              obtain ⟨rfl, rfl⟩ := hp
              show Z X (0) (0) (rdw E r (rt 0) (.ref (rp 0)) (mrd S (nI p2)) ++ tpw E rt ST ++ plw E rp (mpv SP (nI G2.length) o2 l2 r2)) [(0, .ref (r 0)), (1, .int (nI op)), (2, .int all), (3, .int (nI i))] 23 [.int (nI (sx p2))]
              refine z_istore (pc := 23) (lv' := [(0, .ref (r 0)), (1, .int (nI op)), (2, .int all), (3, .int (nI i)), (4, .int (nI (sx p2)))]) F dX3_readTerm_23 (by decide) [1, 2, 3, 4, 0] rfl ?_
              refine z_iload (pc := 25) F dX3_readTerm_25 4 rfl ?_
              refine z_bipush (pc := 27) (v := 42) F dX3_readTerm_27 (by decide) ?_
              refine z_icmp_eq (pc := 29) (tgt := 48) F dX3_readTerm_29 (by decide) (fun c29 => absurd c29 (fun h => isD_ne hv.2 (by decide) (nIe (b := 42) (by have := hsx p2; omega) (by decide) h))) (fun c29 => ?_)
              have k29 : ¬ sx p2 = 42 := fun h => c29 (by rw [h]; rfl)
              refine z_iload (pc := 32) F dX3_readTerm_32 4 rfl ?_
              refine z_bipush (pc := 34) (v := 47) F dX3_readTerm_34 (by decide) ?_
              refine z_icmp_eq (pc := 36) (tgt := 48) F dX3_readTerm_36 (by decide) (fun c36 => absurd c36 (fun h => isD_ne hv.2 (by decide) (nIe (b := 47) (by have := hsx p2; omega) (by decide) h))) (fun c36 => ?_)
              have k36 : ¬ sx p2 = 47 := fun h => c36 (by rw [h]; rfl)
              refine z_iload (pc := 39) F dX3_readTerm_39 4 rfl ?_
              refine z_bipush (pc := 41) (v := 37) F dX3_readTerm_41 (by decide) ?_
              refine z_icmp_eq (pc := 43) (tgt := 48) F dX3_readTerm_43 (by decide) (fun c43 => absurd c43 (fun h => isD_ne hv.2 (by decide) (nIe (b := 37) (by have := hsx p2; omega) (by decide) h))) (fun c43 => ?_)
              have k43 : ¬ sx p2 = 37 := fun h => c43 (by rw [h]; rfl)
              refine z_iload_n (pc := 46) F dX3_readTerm_46 rfl 2 rfl ?_
              exact z_iret (pc := 47) F hR dX3_readTerm_47 (Nat.le_of_ble_eq_true rfl) (Nat.le_of_ble_eq_true rfl) (ce_n he1 he2 hho2 hln2 (Or.inr hv))
    exact L8 _ 0 v1 p1 G1 o1_ l1_ r1_ (Nat.lt_succ_self _) (Nat.zero_le _) (by omega) hln1 hho1 (Or.inr ⟨rfl, rfl, hv1⟩)
  · have b1 : p ≤ p1 ∧ (p ≤ tp → p1 ≤ tp) := by have q_ := ps_b h0 _ _ _ _ _ (by decide) h1; exact ⟨q_.1, q_.2.1⟩
    refine z_aload_n (pc := 0) F dX3_readTerm_0 rfl 0 rfl ?_
    refine z_iload_n (pc := 1) F dX3_readTerm_1 rfl 1 rfl ?_
    refine z_callVW (pc := 2) (q0 := 0) (ci := 3) (rest := []) F (cC_y (ihS n' (by omega)) h1 hp hN hop hho) 1 ww_Reader_108 (by decide +kernel) rfl (by constructor <;> (dsimp only; omega)) ⟨Nat.le_of_ble_eq_true rfl, Nat.le_of_ble_eq_true rfl⟩ rfl rfl rfl rfl (Nat.le_of_ble_eq_true rfl) dX3_readTerm_2 (fun v_ w1_ hp => ?_)
    obtain ⟨j1, G1, o1_, l1_, r1_, rfl, rfl, hho1, hln1, hj1, hB1⟩ := hp
    show Z X (0) (0) (rdw E r (rt 0) (.ref (rp 0)) (mrd S (nI p1)) ++ tpw E rt ST ++ plw E rp (mpv SP (nI G1.length) o1_ l1_ r1_)) [(0, .ref (r 0)), (1, .int (nI op))] 5 [.int (nI j1)]
    refine z_istore_n (pc := 5) (lv' := [(0, .ref (r 0)), (1, .int (nI op)), (2, .int (nI j1))]) F dX3_readTerm_5 rfl (by decide) [1, 2, 0] rfl ?_
    refine z_iconst (pc := 6) (v := 0) F dX3_readTerm_6 (by decide) ?_
    refine z_istore_n (pc := 7) (lv' := [(0, .ref (r 0)), (1, .int (nI op)), (2, .int (nI j1)), (3, .int 0)]) F dX3_readTerm_7 rfl (by decide) [1, 2, 3, 0] rfl ?_
    have L8 : ∀ (N : Nat) (i : Nat) (all : Int32) (p2 : Nat) (G2 : List zNd) (o2 : Nat → Int32) (l2 : Nat → Int32) (r2 : Nat → Int32), (81 - i) < N → (i ≤ p2) → (p2 ≤ tp) → (G2.length + p ≤ G.length + p2) → (hoN G2 o2 l2 r2) → (cLp sx 8 op n' G G2 p2 all (R2.1, R2.2.1, c1 ++ R2.2.2)) → Z X (0) (0) (rdw E r (rt 0) (.ref (rp 0)) (mrd S (nI p2)) ++ tpw E rt ST ++ plw E rp (mpv SP (nI G2.length) o2 l2 r2)) [(0, .ref (r 0)), (1, .int (nI op)), (2, .int all), (3, .int (nI i))] 8 [] := by
      intro N
      induction N with
      | zero => intro i all p2 G2 o2 l2 r2 hN; exact absurd hN (Nat.not_lt_zero _)
      | succ N ih8 =>
        intro i all p2 G2 o2 l2 r2 hN hi hp2 hln2 hho2 hD
        rcases hD with ⟨j, k, c0, R4, rfl, hj, hk, hl, he1, he2, he3, hB⟩ | ⟨he1, he2, hv⟩
        · obtain ⟨k', rfl⟩ : ∃ k', k = k' + 1 := by cases k with | zero => cases hl | succ k' => exact ⟨k', rfl⟩
          refine z_iload_n (pc := 8) F dX3_readTerm_8 rfl 3 rfl ?_
          refine z_bipush (pc := 9) (v := 80) F dX3_readTerm_9 (by decide) ?_
          refine z_icmp_ge (pc := 11) (tgt := 80) F dX3_readTerm_11 (by decide) (fun c11 => ?_) (fun c11 => ?_)
          · have hi80 := gI (a := 80) (by decide) (by omega) c11
            have hz2 : sx p2 = 0 := h0 p2 (by omega)
            refine z_iload_n (pc := 80) F dX3_readTerm_80 rfl 2 rfl ?_
            exact z_iret (pc := 81) F hR dX3_readTerm_81 (Nat.le_of_ble_eq_true rfl) (Nat.le_of_ble_eq_true rfl) (by have e4 := ps_8n hl (by omega); subst e4; exact ce_y he1 he2 he3 hho2 hln2 rfl hj (BLc hB))
          · have hi80 := ngI (a := 80) (by decide) (by omega) c11
            refine z_iload_n (pc := 14) F dX3_readTerm_14 rfl 2 rfl ?_
            refine z_iconst (pc := 15) (v := (-1)) F dX3_readTerm_15 (by decide) ?_
            refine z_icmp_eq (pc := 16) (tgt := 80) F dX3_readTerm_16 (by decide) (fun c16 => absurd c16 (nI_nm (by omega))) (fun c16 => ?_)
            refine z_aload_n (pc := 19) F dX3_readTerm_19 rfl 0 rfl ?_
            refine z_callVW (pc := 20) (q0 := 0) (ci := 3) (rest := []) F (c_X3_peek l E r rt rp S ST (mpv SP (nI G2.length) o2 l2 r2) tp sx p2 ht hp2) 0 ww_Reader_51 (by decide +kernel) rfl (by constructor <;> (dsimp only; omega)) ⟨Nat.le_of_ble_eq_true rfl, Nat.le_of_ble_eq_true rfl⟩ rfl rfl rfl rfl (Nat.le_of_ble_eq_true rfl) dX3_readTerm_20 (fun v_ w1_ hp => ?_)
            obtain ⟨rfl, rfl⟩ := hp
            show Z X (0) (0) (rdw E r (rt 0) (.ref (rp 0)) (mrd S (nI p2)) ++ tpw E rt ST ++ plw E rp (mpv SP (nI G2.length) o2 l2 r2)) [(0, .ref (r 0)), (1, .int (nI op)), (2, .int (nI j)), (3, .int (nI i))] 23 [.int (nI (sx p2))]
            refine z_istore (pc := 23) (lv' := [(0, .ref (r 0)), (1, .int (nI op)), (2, .int (nI j)), (3, .int (nI i)), (4, .int (nI (sx p2)))]) F dX3_readTerm_23 (by decide) [1, 2, 3, 4, 0] rfl ?_
            refine z_iload (pc := 25) F dX3_readTerm_25 4 rfl ?_
            refine z_bipush (pc := 27) (v := 42) F dX3_readTerm_27 (by decide) ?_
            refine z_icmp_eq (pc := 29) (tgt := 48) F dX3_readTerm_29 (by decide) (fun c29 => ?_) (fun c29 => ?_)
            · have k29 : sx p2 = 42 := nIe (b := 42) (by have := hsx (p2); omega) (by decide) c29
              have kx : sx p2 = 42 ∨ sx p2 = 47 ∨ sx p2 = 37 := by omega
              refine z_aload_n (pc := 48) F dX3_readTerm_48 rfl 0 rfl ?_
              refine z_dup (pc := 49) F dX3_readTerm_49 rfl ?_
              refine z_get (pc := 50) (v := .int (nI p2)) F iX3 0 rfl rfl 2 (by decide) tw_149 rfl dX3_readTerm_50 ?_
              refine z_iconst (pc := 53) (v := 1) F dX3_readTerm_53 (by decide) ?_
              refine z_iadd (pc := 54) F dX3_readTerm_54 ?_
              rw [show ((nI p2) + 1) = nI (p2 + 1) from (nI_1 _)]
              refine z_put (pc := 55) (ws' := rdw E r (rt 0) (.ref (rp 0)) (mrd S (nI (p2 + 1))) ++ tpw E rt ST ++ plw E rp (mpv SP (nI G2.length) o2 l2 r2)) F iX3 tyX3 tyX3_ok nmX3 0 rfl rfl 2 (by decide) tw_149 rfl rfl rfl (Nat.le_of_ble_eq_true rfl) dX3_readTerm_55 rfl ?_
              refine z_aload_n (pc := 58) F dX3_readTerm_58 rfl 0 rfl ?_
              refine z_get (pc := 59) (v := .ref (rp 0)) F iX3 0 rfl rfl 1 (by decide) tw_148 rfl dX3_readTerm_59 ?_
              refine z_iload (pc := 62) F dX3_readTerm_62 4 rfl ?_
              refine z_iload_n (pc := 64) F dX3_readTerm_64 rfl 2 rfl ?_
              refine z_aload_n (pc := 65) F dX3_readTerm_65 rfl 0 rfl ?_
              refine z_iload_n (pc := 66) F dX3_readTerm_66 rfl 1 rfl ?_
              obtain ⟨p3, c3, hh3⟩ := ps_8y hl kx; rcases hh3 with ⟨h3, e4⟩ | ⟨h3, R5, h5, e4⟩
              · have hlt2 : p2 < tp := sx_lt h0 (by omega)
                have b3 : (p2 + 1) ≤ p3 ∧ ((p2 + 1) ≤ tp → p3 ≤ tp) := by have q_ := ps_b h0 _ _ _ _ _ (by decide) h3; exact ⟨q_.1, q_.2.1⟩
                refine z_callVW (pc := 67) (q0 := 0) (ci := 3) (rest := [.int (nI j), .int (nI (sx p2)), .ref (rp 0)]) F (cC_n (ihS k' (by omega)) h3 (by omega) (by omega) (by omega) hho2) 1 ww_Reader_108 (by decide +kernel) rfl (by constructor <;> (dsimp only; omega)) ⟨Nat.le_of_ble_eq_true rfl, Nat.le_of_ble_eq_true rfl⟩ rfl rfl rfl rfl (Nat.le_of_ble_eq_true rfl) dX3_readTerm_67 (fun v_ w1_ hp => ?_)
                obtain ⟨v3, G3, o3, l3, r3, rfl, rfl, hho3, hln3, hv3⟩ := hp
                show Z X (0) (0) (rdw E r (rt 0) (.ref (rp 0)) (mrd S (nI p3)) ++ tpw E rt ST ++ plw E rp (mpv SP (nI G3.length) o3 l3 r3)) [(0, .ref (r 0)), (1, .int (nI op)), (2, .int (nI j)), (3, .int (nI i)), (4, .int (nI (sx p2)))] 70 [.int v3, .int (nI j), .int (nI (sx p2)), .ref (rp 0)]
                rcases hv3 with hv3 | hv3
                · subst hv3
                  refine z_callV (pc := 70) (q0 := 3) (ci := 2) (wr := rdw E r (rt 0) (.ref (rp 0)) (mrd S (nI p3)) ++ tpw E rt ST) (rest := []) F (c_X2_join_n l E rp (mpv SP (nI G3.length) o3 l3 r3) (nI (sx p2)) (nI j) (-1) (Or.inr rfl)) 3 [3, 4, 5, 6] [0, 1, 2] rfl rfl ⟨by decide, by decide, by decide⟩ ww_Reader_95 (by decide +kernel) rfl (by constructor <;> (dsimp only; omega)) ⟨Nat.le_of_ble_eq_true rfl, Nat.le_of_ble_eq_true rfl⟩ rfl rfl rfl rfl (Nat.le_of_ble_eq_true rfl) dX3_readTerm_70 (fun v_ w1_ hp => ?_)
                  obtain ⟨rfl, rfl⟩ := hp
                  show Z X (0) (0) (rdw E r (rt 0) (.ref (rp 0)) (mrd S (nI p3)) ++ tpw E rt ST ++ plw E rp (mpv SP (nI G3.length) o3 l3 r3)) [(0, .ref (r 0)), (1, .int (nI op)), (2, .int (nI j)), (3, .int (nI i)), (4, .int (nI (sx p2)))] 73 [.int (-1)]
                  refine z_istore_n (pc := 73) (lv' := [(0, .ref (r 0)), (1, .int (nI op)), (2, .int (-1)), (3, .int (nI i)), (4, .int (nI (sx p2)))]) F dX3_readTerm_73 rfl (by decide) [1, 2, 0, 3, 4] rfl ?_
                  refine z_iinc (pc := 74) (v := nI (i + 1)) (lv' := [(0, .ref (r 0)), (1, .int (nI op)), (2, .int (-1)), (3, .int (nI (i + 1))), (4, .int (nI (sx p2)))]) F (j := 3) dX3_readTerm_74 rfl (nI_1 _) (by decide) [1, 2, 3, 0, 4] rfl ?_
                  refine z_goto (pc := 77) (tgt := 8) F dX3_readTerm_77 (by decide) ?_
                  refine z_locals (lv' := [(0, .ref (r 0)), (1, .int (nI op)), (2, .int (-1)), (3, .int (nI (i + 1)))]) [0, 1, 2, 3] rfl ?_
                  subst e4; exact ih8 (i + 1) (-1) p3 G3 _ _ _ (by omega) (by omega) (by omega) (by omega) hho3 (Or.inr ⟨he1, he2, Or.inl rfl⟩)
                · skip
                  refine z_callV (pc := 70) (q0 := 3) (ci := 2) (wr := rdw E r (rt 0) (.ref (rp 0)) (mrd S (nI p3)) ++ tpw E rt ST) (rest := []) F (c_X2_join_y l E rp (mpv SP (nI G3.length) o3 l3 r3) (G3.length) (nI (sx p2)) (nI j) v3 (by omega) rfl (nar_ch (hsx p2)) (nI_nm (by omega)) hv3.1) 3 [3, 4, 5, 6] [0, 1, 2] rfl rfl ⟨by decide, by decide, by decide⟩ ww_Reader_95 (by decide +kernel) rfl (by constructor <;> (dsimp only; omega)) ⟨Nat.le_of_ble_eq_true rfl, Nat.le_of_ble_eq_true rfl⟩ rfl rfl rfl rfl (Nat.le_of_ble_eq_true rfl) dX3_readTerm_70 (fun v_ w1_ hp => ?_)
                  obtain ⟨rfl, rfl⟩ := hp
                  show Z X (0) (0) (rdw E r (rt 0) (.ref (rp 0)) (mrd S (nI p3)) ++ tpw E rt ST ++ plw E rp (mpv SP (nI ((G3.length) + 1)) (upd o3 (G3.length) (nI (sx p2))) (upd l3 (G3.length) (nI j)) (upd r3 (G3.length) v3))) [(0, .ref (r 0)), (1, .int (nI op)), (2, .int (nI j)), (3, .int (nI i)), (4, .int (nI (sx p2)))] 73 [.int (nI (G3.length))]
                  refine z_istore_n (pc := 73) (lv' := [(0, .ref (r 0)), (1, .int (nI op)), (2, .int (nI (G3.length))), (3, .int (nI i)), (4, .int (nI (sx p2)))]) F dX3_readTerm_73 rfl (by decide) [1, 2, 0, 3, 4] rfl ?_
                  refine z_iinc (pc := 74) (v := nI (i + 1)) (lv' := [(0, .ref (r 0)), (1, .int (nI op)), (2, .int (nI (G3.length))), (3, .int (nI (i + 1))), (4, .int (nI (sx p2)))]) F (j := 3) dX3_readTerm_74 rfl (nI_1 _) (by decide) [1, 2, 3, 0, 4] rfl ?_
                  refine z_goto (pc := 77) (tgt := 8) F dX3_readTerm_77 (by decide) ?_
                  refine z_locals (lv' := [(0, .ref (r 0)), (1, .int (nI op)), (2, .int (nI (G3.length))), (3, .int (nI (i + 1)))]) [0, 1, 2, 3] rfl ?_
                  subst e4; rw [show G3.length + 1 = (G3 ++ [(sx p2, nI j, v3)]).length from (len_add _ _).symm]; have hA9 := hoN_add (c := sx p2) hho3 (c' := nI (sx p2)) (a := nI j) (b := v3) rfl; exact ih8 (i + 1) (nI G3.length) p3 (G3 ++ [(sx p2, nI j, v3)]) _ _ _ (by omega) (by omega) (by omega) (by rw [len_add]; omega) hA9 (Or.inr ⟨he1, he2, Or.inr ⟨nI_nm (by omega), hv3.2⟩⟩)
              · have hlt2 : p2 < tp := sx_lt h0 (by omega)
                have b3 : (p2 + 1) ≤ p3 ∧ ((p2 + 1) ≤ tp → p3 ≤ tp) := by have q_ := ps_b h0 _ _ _ _ _ (by decide) h3; exact ⟨q_.1, q_.2.1⟩
                refine z_callVW (pc := 67) (q0 := 0) (ci := 3) (rest := [.int (nI j), .int (nI (sx p2)), .ref (rp 0)]) F (cC_y (ihS k' (by omega)) h3 (by omega) (by omega) (by omega) hho2) 1 ww_Reader_108 (by decide +kernel) rfl (by constructor <;> (dsimp only; omega)) ⟨Nat.le_of_ble_eq_true rfl, Nat.le_of_ble_eq_true rfl⟩ rfl rfl rfl rfl (Nat.le_of_ble_eq_true rfl) dX3_readTerm_67 (fun v_ w1_ hp => ?_)
                obtain ⟨j3, G3, o3, l3, r3, rfl, rfl, hho3, hln3, hj3, hB3⟩ := hp
                show Z X (0) (0) (rdw E r (rt 0) (.ref (rp 0)) (mrd S (nI p3)) ++ tpw E rt ST ++ plw E rp (mpv SP (nI G3.length) o3 l3 r3)) [(0, .ref (r 0)), (1, .int (nI op)), (2, .int (nI j)), (3, .int (nI i)), (4, .int (nI (sx p2)))] 70 [.int (nI j3), .int (nI j), .int (nI (sx p2)), .ref (rp 0)]
                refine z_callV (pc := 70) (q0 := 3) (ci := 2) (wr := rdw E r (rt 0) (.ref (rp 0)) (mrd S (nI p3)) ++ tpw E rt ST) (rest := []) F (c_X2_join_y l E rp (mpv SP (nI G3.length) o3 l3 r3) (G3.length) (nI (sx p2)) (nI j) (nI j3) (by omega) rfl (nar_ch (hsx p2)) (nI_nm (by omega)) (nI_nm (by omega))) 3 [3, 4, 5, 6] [0, 1, 2] rfl rfl ⟨by decide, by decide, by decide⟩ ww_Reader_95 (by decide +kernel) rfl (by constructor <;> (dsimp only; omega)) ⟨Nat.le_of_ble_eq_true rfl, Nat.le_of_ble_eq_true rfl⟩ rfl rfl rfl rfl (Nat.le_of_ble_eq_true rfl) dX3_readTerm_70 (fun v_ w1_ hp => ?_)
                obtain ⟨rfl, rfl⟩ := hp
                show Z X (0) (0) (rdw E r (rt 0) (.ref (rp 0)) (mrd S (nI p3)) ++ tpw E rt ST ++ plw E rp (mpv SP (nI ((G3.length) + 1)) (upd o3 (G3.length) (nI (sx p2))) (upd l3 (G3.length) (nI j)) (upd r3 (G3.length) (nI j3)))) [(0, .ref (r 0)), (1, .int (nI op)), (2, .int (nI j)), (3, .int (nI i)), (4, .int (nI (sx p2)))] 73 [.int (nI (G3.length))]
                refine z_istore_n (pc := 73) (lv' := [(0, .ref (r 0)), (1, .int (nI op)), (2, .int (nI (G3.length))), (3, .int (nI i)), (4, .int (nI (sx p2)))]) F dX3_readTerm_73 rfl (by decide) [1, 2, 0, 3, 4] rfl ?_
                refine z_iinc (pc := 74) (v := nI (i + 1)) (lv' := [(0, .ref (r 0)), (1, .int (nI op)), (2, .int (nI (G3.length))), (3, .int (nI (i + 1))), (4, .int (nI (sx p2)))]) F (j := 3) dX3_readTerm_74 rfl (nI_1 _) (by decide) [1, 2, 3, 0, 4] rfl ?_
                refine z_goto (pc := 77) (tgt := 8) F dX3_readTerm_77 (by decide) ?_
                refine z_locals (lv' := [(0, .ref (r 0)), (1, .int (nI op)), (2, .int (nI (G3.length))), (3, .int (nI (i + 1)))]) [0, 1, 2, 3] rfl ?_
                subst e4; rw [show G3.length + 1 = (G3 ++ [(sx p2, nI j, nI j3)]).length from (len_add _ _).symm]; have hA9 := hoN_add (c := sx p2) hho3 (c' := nI (sx p2)) (a := nI j) (b := nI j3) rfl; exact ih8 (i + 1) (nI G3.length) p3 (G3 ++ [(sx p2, nI j, nI j3)]) _ _ _ (by omega) (by omega) (by omega) (by rw [len_add]; omega) hA9 (Or.inl ⟨G3.length, k', c0 ++ (c3 ++ [(mulO (sx p2), 0)]), R5, rfl, by rw [len_add]; omega, by omega, h5, he1, he2, (by rw [List.append_assoc]; exact he3), by have h_ := BL_bin hB hB3 (f := mulO (sx p2)) (mulO_r _); rw [mulO_c kx] at h_; exact h_⟩)
            · have k29 : ¬ sx p2 = 42 := fun h => c29 (by rw [h]; rfl)
              refine z_iload (pc := 32) F dX3_readTerm_32 4 rfl ?_
              refine z_bipush (pc := 34) (v := 47) F dX3_readTerm_34 (by decide) ?_
              refine z_icmp_eq (pc := 36) (tgt := 48) F dX3_readTerm_36 (by decide) (fun c36 => ?_) (fun c36 => ?_)
              · have k36 : sx p2 = 47 := nIe (b := 47) (by have := hsx (p2); omega) (by decide) c36
                have kx : sx p2 = 42 ∨ sx p2 = 47 ∨ sx p2 = 37 := by omega
                refine z_aload_n (pc := 48) F dX3_readTerm_48 rfl 0 rfl ?_
                refine z_dup (pc := 49) F dX3_readTerm_49 rfl ?_
                refine z_get (pc := 50) (v := .int (nI p2)) F iX3 0 rfl rfl 2 (by decide) tw_149 rfl dX3_readTerm_50 ?_
                refine z_iconst (pc := 53) (v := 1) F dX3_readTerm_53 (by decide) ?_
                refine z_iadd (pc := 54) F dX3_readTerm_54 ?_
                rw [show ((nI p2) + 1) = nI (p2 + 1) from (nI_1 _)]
                refine z_put (pc := 55) (ws' := rdw E r (rt 0) (.ref (rp 0)) (mrd S (nI (p2 + 1))) ++ tpw E rt ST ++ plw E rp (mpv SP (nI G2.length) o2 l2 r2)) F iX3 tyX3 tyX3_ok nmX3 0 rfl rfl 2 (by decide) tw_149 rfl rfl rfl (Nat.le_of_ble_eq_true rfl) dX3_readTerm_55 rfl ?_
                refine z_aload_n (pc := 58) F dX3_readTerm_58 rfl 0 rfl ?_
                refine z_get (pc := 59) (v := .ref (rp 0)) F iX3 0 rfl rfl 1 (by decide) tw_148 rfl dX3_readTerm_59 ?_
                refine z_iload (pc := 62) F dX3_readTerm_62 4 rfl ?_
                refine z_iload_n (pc := 64) F dX3_readTerm_64 rfl 2 rfl ?_
                refine z_aload_n (pc := 65) F dX3_readTerm_65 rfl 0 rfl ?_
                refine z_iload_n (pc := 66) F dX3_readTerm_66 rfl 1 rfl ?_
                obtain ⟨p3, c3, hh3⟩ := ps_8y hl kx; rcases hh3 with ⟨h3, e4⟩ | ⟨h3, R5, h5, e4⟩
                · have hlt2 : p2 < tp := sx_lt h0 (by omega)
                  have b3 : (p2 + 1) ≤ p3 ∧ ((p2 + 1) ≤ tp → p3 ≤ tp) := by have q_ := ps_b h0 _ _ _ _ _ (by decide) h3; exact ⟨q_.1, q_.2.1⟩
                  refine z_callVW (pc := 67) (q0 := 0) (ci := 3) (rest := [.int (nI j), .int (nI (sx p2)), .ref (rp 0)]) F (cC_n (ihS k' (by omega)) h3 (by omega) (by omega) (by omega) hho2) 1 ww_Reader_108 (by decide +kernel) rfl (by constructor <;> (dsimp only; omega)) ⟨Nat.le_of_ble_eq_true rfl, Nat.le_of_ble_eq_true rfl⟩ rfl rfl rfl rfl (Nat.le_of_ble_eq_true rfl) dX3_readTerm_67 (fun v_ w1_ hp => ?_)
                  obtain ⟨v3, G3, o3, l3, r3, rfl, rfl, hho3, hln3, hv3⟩ := hp
                  show Z X (0) (0) (rdw E r (rt 0) (.ref (rp 0)) (mrd S (nI p3)) ++ tpw E rt ST ++ plw E rp (mpv SP (nI G3.length) o3 l3 r3)) [(0, .ref (r 0)), (1, .int (nI op)), (2, .int (nI j)), (3, .int (nI i)), (4, .int (nI (sx p2)))] 70 [.int v3, .int (nI j), .int (nI (sx p2)), .ref (rp 0)]
                  rcases hv3 with hv3 | hv3
                  · subst hv3
                    refine z_callV (pc := 70) (q0 := 3) (ci := 2) (wr := rdw E r (rt 0) (.ref (rp 0)) (mrd S (nI p3)) ++ tpw E rt ST) (rest := []) F (c_X2_join_n l E rp (mpv SP (nI G3.length) o3 l3 r3) (nI (sx p2)) (nI j) (-1) (Or.inr rfl)) 3 [3, 4, 5, 6] [0, 1, 2] rfl rfl ⟨by decide, by decide, by decide⟩ ww_Reader_95 (by decide +kernel) rfl (by constructor <;> (dsimp only; omega)) ⟨Nat.le_of_ble_eq_true rfl, Nat.le_of_ble_eq_true rfl⟩ rfl rfl rfl rfl (Nat.le_of_ble_eq_true rfl) dX3_readTerm_70 (fun v_ w1_ hp => ?_)
                    obtain ⟨rfl, rfl⟩ := hp
                    show Z X (0) (0) (rdw E r (rt 0) (.ref (rp 0)) (mrd S (nI p3)) ++ tpw E rt ST ++ plw E rp (mpv SP (nI G3.length) o3 l3 r3)) [(0, .ref (r 0)), (1, .int (nI op)), (2, .int (nI j)), (3, .int (nI i)), (4, .int (nI (sx p2)))] 73 [.int (-1)]
                    refine z_istore_n (pc := 73) (lv' := [(0, .ref (r 0)), (1, .int (nI op)), (2, .int (-1)), (3, .int (nI i)), (4, .int (nI (sx p2)))]) F dX3_readTerm_73 rfl (by decide) [1, 2, 0, 3, 4] rfl ?_
                    refine z_iinc (pc := 74) (v := nI (i + 1)) (lv' := [(0, .ref (r 0)), (1, .int (nI op)), (2, .int (-1)), (3, .int (nI (i + 1))), (4, .int (nI (sx p2)))]) F (j := 3) dX3_readTerm_74 rfl (nI_1 _) (by decide) [1, 2, 3, 0, 4] rfl ?_
                    refine z_goto (pc := 77) (tgt := 8) F dX3_readTerm_77 (by decide) ?_
                    refine z_locals (lv' := [(0, .ref (r 0)), (1, .int (nI op)), (2, .int (-1)), (3, .int (nI (i + 1)))]) [0, 1, 2, 3] rfl ?_
                    subst e4; exact ih8 (i + 1) (-1) p3 G3 _ _ _ (by omega) (by omega) (by omega) (by omega) hho3 (Or.inr ⟨he1, he2, Or.inl rfl⟩)
                  · skip
                    refine z_callV (pc := 70) (q0 := 3) (ci := 2) (wr := rdw E r (rt 0) (.ref (rp 0)) (mrd S (nI p3)) ++ tpw E rt ST) (rest := []) F (c_X2_join_y l E rp (mpv SP (nI G3.length) o3 l3 r3) (G3.length) (nI (sx p2)) (nI j) v3 (by omega) rfl (nar_ch (hsx p2)) (nI_nm (by omega)) hv3.1) 3 [3, 4, 5, 6] [0, 1, 2] rfl rfl ⟨by decide, by decide, by decide⟩ ww_Reader_95 (by decide +kernel) rfl (by constructor <;> (dsimp only; omega)) ⟨Nat.le_of_ble_eq_true rfl, Nat.le_of_ble_eq_true rfl⟩ rfl rfl rfl rfl (Nat.le_of_ble_eq_true rfl) dX3_readTerm_70 (fun v_ w1_ hp => ?_)
                    obtain ⟨rfl, rfl⟩ := hp
                    show Z X (0) (0) (rdw E r (rt 0) (.ref (rp 0)) (mrd S (nI p3)) ++ tpw E rt ST ++ plw E rp (mpv SP (nI ((G3.length) + 1)) (upd o3 (G3.length) (nI (sx p2))) (upd l3 (G3.length) (nI j)) (upd r3 (G3.length) v3))) [(0, .ref (r 0)), (1, .int (nI op)), (2, .int (nI j)), (3, .int (nI i)), (4, .int (nI (sx p2)))] 73 [.int (nI (G3.length))]
                    refine z_istore_n (pc := 73) (lv' := [(0, .ref (r 0)), (1, .int (nI op)), (2, .int (nI (G3.length))), (3, .int (nI i)), (4, .int (nI (sx p2)))]) F dX3_readTerm_73 rfl (by decide) [1, 2, 0, 3, 4] rfl ?_
                    refine z_iinc (pc := 74) (v := nI (i + 1)) (lv' := [(0, .ref (r 0)), (1, .int (nI op)), (2, .int (nI (G3.length))), (3, .int (nI (i + 1))), (4, .int (nI (sx p2)))]) F (j := 3) dX3_readTerm_74 rfl (nI_1 _) (by decide) [1, 2, 3, 0, 4] rfl ?_
                    refine z_goto (pc := 77) (tgt := 8) F dX3_readTerm_77 (by decide) ?_
                    refine z_locals (lv' := [(0, .ref (r 0)), (1, .int (nI op)), (2, .int (nI (G3.length))), (3, .int (nI (i + 1)))]) [0, 1, 2, 3] rfl ?_
                    subst e4; rw [show G3.length + 1 = (G3 ++ [(sx p2, nI j, v3)]).length from (len_add _ _).symm]; have hA9 := hoN_add (c := sx p2) hho3 (c' := nI (sx p2)) (a := nI j) (b := v3) rfl; exact ih8 (i + 1) (nI G3.length) p3 (G3 ++ [(sx p2, nI j, v3)]) _ _ _ (by omega) (by omega) (by omega) (by rw [len_add]; omega) hA9 (Or.inr ⟨he1, he2, Or.inr ⟨nI_nm (by omega), hv3.2⟩⟩)
                · have hlt2 : p2 < tp := sx_lt h0 (by omega)
                  have b3 : (p2 + 1) ≤ p3 ∧ ((p2 + 1) ≤ tp → p3 ≤ tp) := by have q_ := ps_b h0 _ _ _ _ _ (by decide) h3; exact ⟨q_.1, q_.2.1⟩
                  refine z_callVW (pc := 67) (q0 := 0) (ci := 3) (rest := [.int (nI j), .int (nI (sx p2)), .ref (rp 0)]) F (cC_y (ihS k' (by omega)) h3 (by omega) (by omega) (by omega) hho2) 1 ww_Reader_108 (by decide +kernel) rfl (by constructor <;> (dsimp only; omega)) ⟨Nat.le_of_ble_eq_true rfl, Nat.le_of_ble_eq_true rfl⟩ rfl rfl rfl rfl (Nat.le_of_ble_eq_true rfl) dX3_readTerm_67 (fun v_ w1_ hp => ?_)
                  obtain ⟨j3, G3, o3, l3, r3, rfl, rfl, hho3, hln3, hj3, hB3⟩ := hp
                  show Z X (0) (0) (rdw E r (rt 0) (.ref (rp 0)) (mrd S (nI p3)) ++ tpw E rt ST ++ plw E rp (mpv SP (nI G3.length) o3 l3 r3)) [(0, .ref (r 0)), (1, .int (nI op)), (2, .int (nI j)), (3, .int (nI i)), (4, .int (nI (sx p2)))] 70 [.int (nI j3), .int (nI j), .int (nI (sx p2)), .ref (rp 0)]
                  refine z_callV (pc := 70) (q0 := 3) (ci := 2) (wr := rdw E r (rt 0) (.ref (rp 0)) (mrd S (nI p3)) ++ tpw E rt ST) (rest := []) F (c_X2_join_y l E rp (mpv SP (nI G3.length) o3 l3 r3) (G3.length) (nI (sx p2)) (nI j) (nI j3) (by omega) rfl (nar_ch (hsx p2)) (nI_nm (by omega)) (nI_nm (by omega))) 3 [3, 4, 5, 6] [0, 1, 2] rfl rfl ⟨by decide, by decide, by decide⟩ ww_Reader_95 (by decide +kernel) rfl (by constructor <;> (dsimp only; omega)) ⟨Nat.le_of_ble_eq_true rfl, Nat.le_of_ble_eq_true rfl⟩ rfl rfl rfl rfl (Nat.le_of_ble_eq_true rfl) dX3_readTerm_70 (fun v_ w1_ hp => ?_)
                  obtain ⟨rfl, rfl⟩ := hp
                  show Z X (0) (0) (rdw E r (rt 0) (.ref (rp 0)) (mrd S (nI p3)) ++ tpw E rt ST ++ plw E rp (mpv SP (nI ((G3.length) + 1)) (upd o3 (G3.length) (nI (sx p2))) (upd l3 (G3.length) (nI j)) (upd r3 (G3.length) (nI j3)))) [(0, .ref (r 0)), (1, .int (nI op)), (2, .int (nI j)), (3, .int (nI i)), (4, .int (nI (sx p2)))] 73 [.int (nI (G3.length))]
                  refine z_istore_n (pc := 73) (lv' := [(0, .ref (r 0)), (1, .int (nI op)), (2, .int (nI (G3.length))), (3, .int (nI i)), (4, .int (nI (sx p2)))]) F dX3_readTerm_73 rfl (by decide) [1, 2, 0, 3, 4] rfl ?_
                  refine z_iinc (pc := 74) (v := nI (i + 1)) (lv' := [(0, .ref (r 0)), (1, .int (nI op)), (2, .int (nI (G3.length))), (3, .int (nI (i + 1))), (4, .int (nI (sx p2)))]) F (j := 3) dX3_readTerm_74 rfl (nI_1 _) (by decide) [1, 2, 3, 0, 4] rfl ?_
                  refine z_goto (pc := 77) (tgt := 8) F dX3_readTerm_77 (by decide) ?_
                  refine z_locals (lv' := [(0, .ref (r 0)), (1, .int (nI op)), (2, .int (nI (G3.length))), (3, .int (nI (i + 1)))]) [0, 1, 2, 3] rfl ?_
                  subst e4; rw [show G3.length + 1 = (G3 ++ [(sx p2, nI j, nI j3)]).length from (len_add _ _).symm]; have hA9 := hoN_add (c := sx p2) hho3 (c' := nI (sx p2)) (a := nI j) (b := nI j3) rfl; exact ih8 (i + 1) (nI G3.length) p3 (G3 ++ [(sx p2, nI j, nI j3)]) _ _ _ (by omega) (by omega) (by omega) (by rw [len_add]; omega) hA9 (Or.inl ⟨G3.length, k', c0 ++ (c3 ++ [(mulO (sx p2), 0)]), R5, rfl, by rw [len_add]; omega, by omega, h5, he1, he2, (by rw [List.append_assoc]; exact he3), by have h_ := BL_bin hB hB3 (f := mulO (sx p2)) (mulO_r _); rw [mulO_c kx] at h_; exact h_⟩)
              · have k36 : ¬ sx p2 = 47 := fun h => c36 (by rw [h]; rfl)
                refine z_iload (pc := 39) F dX3_readTerm_39 4 rfl ?_
                refine z_bipush (pc := 41) (v := 37) F dX3_readTerm_41 (by decide) ?_
                refine z_icmp_eq (pc := 43) (tgt := 48) F dX3_readTerm_43 (by decide) (fun c43 => ?_) (fun c43 => ?_)
                · have k43 : sx p2 = 37 := nIe (b := 37) (by have := hsx (p2); omega) (by decide) c43
                  have kx : sx p2 = 42 ∨ sx p2 = 47 ∨ sx p2 = 37 := by omega
                  refine z_aload_n (pc := 48) F dX3_readTerm_48 rfl 0 rfl ?_
                  refine z_dup (pc := 49) F dX3_readTerm_49 rfl ?_
                  refine z_get (pc := 50) (v := .int (nI p2)) F iX3 0 rfl rfl 2 (by decide) tw_149 rfl dX3_readTerm_50 ?_
                  refine z_iconst (pc := 53) (v := 1) F dX3_readTerm_53 (by decide) ?_
                  refine z_iadd (pc := 54) F dX3_readTerm_54 ?_
                  rw [show ((nI p2) + 1) = nI (p2 + 1) from (nI_1 _)]
                  refine z_put (pc := 55) (ws' := rdw E r (rt 0) (.ref (rp 0)) (mrd S (nI (p2 + 1))) ++ tpw E rt ST ++ plw E rp (mpv SP (nI G2.length) o2 l2 r2)) F iX3 tyX3 tyX3_ok nmX3 0 rfl rfl 2 (by decide) tw_149 rfl rfl rfl (Nat.le_of_ble_eq_true rfl) dX3_readTerm_55 rfl ?_
                  refine z_aload_n (pc := 58) F dX3_readTerm_58 rfl 0 rfl ?_
                  refine z_get (pc := 59) (v := .ref (rp 0)) F iX3 0 rfl rfl 1 (by decide) tw_148 rfl dX3_readTerm_59 ?_
                  refine z_iload (pc := 62) F dX3_readTerm_62 4 rfl ?_
                  refine z_iload_n (pc := 64) F dX3_readTerm_64 rfl 2 rfl ?_
                  refine z_aload_n (pc := 65) F dX3_readTerm_65 rfl 0 rfl ?_
                  refine z_iload_n (pc := 66) F dX3_readTerm_66 rfl 1 rfl ?_
                  obtain ⟨p3, c3, hh3⟩ := ps_8y hl kx; rcases hh3 with ⟨h3, e4⟩ | ⟨h3, R5, h5, e4⟩
                  · have hlt2 : p2 < tp := sx_lt h0 (by omega)
                    have b3 : (p2 + 1) ≤ p3 ∧ ((p2 + 1) ≤ tp → p3 ≤ tp) := by have q_ := ps_b h0 _ _ _ _ _ (by decide) h3; exact ⟨q_.1, q_.2.1⟩
                    refine z_callVW (pc := 67) (q0 := 0) (ci := 3) (rest := [.int (nI j), .int (nI (sx p2)), .ref (rp 0)]) F (cC_n (ihS k' (by omega)) h3 (by omega) (by omega) (by omega) hho2) 1 ww_Reader_108 (by decide +kernel) rfl (by constructor <;> (dsimp only; omega)) ⟨Nat.le_of_ble_eq_true rfl, Nat.le_of_ble_eq_true rfl⟩ rfl rfl rfl rfl (Nat.le_of_ble_eq_true rfl) dX3_readTerm_67 (fun v_ w1_ hp => ?_)
                    obtain ⟨v3, G3, o3, l3, r3, rfl, rfl, hho3, hln3, hv3⟩ := hp
                    show Z X (0) (0) (rdw E r (rt 0) (.ref (rp 0)) (mrd S (nI p3)) ++ tpw E rt ST ++ plw E rp (mpv SP (nI G3.length) o3 l3 r3)) [(0, .ref (r 0)), (1, .int (nI op)), (2, .int (nI j)), (3, .int (nI i)), (4, .int (nI (sx p2)))] 70 [.int v3, .int (nI j), .int (nI (sx p2)), .ref (rp 0)]
                    rcases hv3 with hv3 | hv3
                    · subst hv3
                      refine z_callV (pc := 70) (q0 := 3) (ci := 2) (wr := rdw E r (rt 0) (.ref (rp 0)) (mrd S (nI p3)) ++ tpw E rt ST) (rest := []) F (c_X2_join_n l E rp (mpv SP (nI G3.length) o3 l3 r3) (nI (sx p2)) (nI j) (-1) (Or.inr rfl)) 3 [3, 4, 5, 6] [0, 1, 2] rfl rfl ⟨by decide, by decide, by decide⟩ ww_Reader_95 (by decide +kernel) rfl (by constructor <;> (dsimp only; omega)) ⟨Nat.le_of_ble_eq_true rfl, Nat.le_of_ble_eq_true rfl⟩ rfl rfl rfl rfl (Nat.le_of_ble_eq_true rfl) dX3_readTerm_70 (fun v_ w1_ hp => ?_)
                      obtain ⟨rfl, rfl⟩ := hp
                      show Z X (0) (0) (rdw E r (rt 0) (.ref (rp 0)) (mrd S (nI p3)) ++ tpw E rt ST ++ plw E rp (mpv SP (nI G3.length) o3 l3 r3)) [(0, .ref (r 0)), (1, .int (nI op)), (2, .int (nI j)), (3, .int (nI i)), (4, .int (nI (sx p2)))] 73 [.int (-1)]
                      refine z_istore_n (pc := 73) (lv' := [(0, .ref (r 0)), (1, .int (nI op)), (2, .int (-1)), (3, .int (nI i)), (4, .int (nI (sx p2)))]) F dX3_readTerm_73 rfl (by decide) [1, 2, 0, 3, 4] rfl ?_
                      refine z_iinc (pc := 74) (v := nI (i + 1)) (lv' := [(0, .ref (r 0)), (1, .int (nI op)), (2, .int (-1)), (3, .int (nI (i + 1))), (4, .int (nI (sx p2)))]) F (j := 3) dX3_readTerm_74 rfl (nI_1 _) (by decide) [1, 2, 3, 0, 4] rfl ?_
                      refine z_goto (pc := 77) (tgt := 8) F dX3_readTerm_77 (by decide) ?_
                      refine z_locals (lv' := [(0, .ref (r 0)), (1, .int (nI op)), (2, .int (-1)), (3, .int (nI (i + 1)))]) [0, 1, 2, 3] rfl ?_
                      subst e4; exact ih8 (i + 1) (-1) p3 G3 _ _ _ (by omega) (by omega) (by omega) (by omega) hho3 (Or.inr ⟨he1, he2, Or.inl rfl⟩)
                    · skip
                      refine z_callV (pc := 70) (q0 := 3) (ci := 2) (wr := rdw E r (rt 0) (.ref (rp 0)) (mrd S (nI p3)) ++ tpw E rt ST) (rest := []) F (c_X2_join_y l E rp (mpv SP (nI G3.length) o3 l3 r3) (G3.length) (nI (sx p2)) (nI j) v3 (by omega) rfl (nar_ch (hsx p2)) (nI_nm (by omega)) hv3.1) 3 [3, 4, 5, 6] [0, 1, 2] rfl rfl ⟨by decide, by decide, by decide⟩ ww_Reader_95 (by decide +kernel) rfl (by constructor <;> (dsimp only; omega)) ⟨Nat.le_of_ble_eq_true rfl, Nat.le_of_ble_eq_true rfl⟩ rfl rfl rfl rfl (Nat.le_of_ble_eq_true rfl) dX3_readTerm_70 (fun v_ w1_ hp => ?_)
                      obtain ⟨rfl, rfl⟩ := hp
                      show Z X (0) (0) (rdw E r (rt 0) (.ref (rp 0)) (mrd S (nI p3)) ++ tpw E rt ST ++ plw E rp (mpv SP (nI ((G3.length) + 1)) (upd o3 (G3.length) (nI (sx p2))) (upd l3 (G3.length) (nI j)) (upd r3 (G3.length) v3))) [(0, .ref (r 0)), (1, .int (nI op)), (2, .int (nI j)), (3, .int (nI i)), (4, .int (nI (sx p2)))] 73 [.int (nI (G3.length))]
                      refine z_istore_n (pc := 73) (lv' := [(0, .ref (r 0)), (1, .int (nI op)), (2, .int (nI (G3.length))), (3, .int (nI i)), (4, .int (nI (sx p2)))]) F dX3_readTerm_73 rfl (by decide) [1, 2, 0, 3, 4] rfl ?_
                      refine z_iinc (pc := 74) (v := nI (i + 1)) (lv' := [(0, .ref (r 0)), (1, .int (nI op)), (2, .int (nI (G3.length))), (3, .int (nI (i + 1))), (4, .int (nI (sx p2)))]) F (j := 3) dX3_readTerm_74 rfl (nI_1 _) (by decide) [1, 2, 3, 0, 4] rfl ?_
                      refine z_goto (pc := 77) (tgt := 8) F dX3_readTerm_77 (by decide) ?_
                      refine z_locals (lv' := [(0, .ref (r 0)), (1, .int (nI op)), (2, .int (nI (G3.length))), (3, .int (nI (i + 1)))]) [0, 1, 2, 3] rfl ?_
                      subst e4; rw [show G3.length + 1 = (G3 ++ [(sx p2, nI j, v3)]).length from (len_add _ _).symm]; have hA9 := hoN_add (c := sx p2) hho3 (c' := nI (sx p2)) (a := nI j) (b := v3) rfl; exact ih8 (i + 1) (nI G3.length) p3 (G3 ++ [(sx p2, nI j, v3)]) _ _ _ (by omega) (by omega) (by omega) (by rw [len_add]; omega) hA9 (Or.inr ⟨he1, he2, Or.inr ⟨nI_nm (by omega), hv3.2⟩⟩)
                  · have hlt2 : p2 < tp := sx_lt h0 (by omega)
                    have b3 : (p2 + 1) ≤ p3 ∧ ((p2 + 1) ≤ tp → p3 ≤ tp) := by have q_ := ps_b h0 _ _ _ _ _ (by decide) h3; exact ⟨q_.1, q_.2.1⟩
                    refine z_callVW (pc := 67) (q0 := 0) (ci := 3) (rest := [.int (nI j), .int (nI (sx p2)), .ref (rp 0)]) F (cC_y (ihS k' (by omega)) h3 (by omega) (by omega) (by omega) hho2) 1 ww_Reader_108 (by decide +kernel) rfl (by constructor <;> (dsimp only; omega)) ⟨Nat.le_of_ble_eq_true rfl, Nat.le_of_ble_eq_true rfl⟩ rfl rfl rfl rfl (Nat.le_of_ble_eq_true rfl) dX3_readTerm_67 (fun v_ w1_ hp => ?_)
                    obtain ⟨j3, G3, o3, l3, r3, rfl, rfl, hho3, hln3, hj3, hB3⟩ := hp
                    show Z X (0) (0) (rdw E r (rt 0) (.ref (rp 0)) (mrd S (nI p3)) ++ tpw E rt ST ++ plw E rp (mpv SP (nI G3.length) o3 l3 r3)) [(0, .ref (r 0)), (1, .int (nI op)), (2, .int (nI j)), (3, .int (nI i)), (4, .int (nI (sx p2)))] 70 [.int (nI j3), .int (nI j), .int (nI (sx p2)), .ref (rp 0)]
                    refine z_callV (pc := 70) (q0 := 3) (ci := 2) (wr := rdw E r (rt 0) (.ref (rp 0)) (mrd S (nI p3)) ++ tpw E rt ST) (rest := []) F (c_X2_join_y l E rp (mpv SP (nI G3.length) o3 l3 r3) (G3.length) (nI (sx p2)) (nI j) (nI j3) (by omega) rfl (nar_ch (hsx p2)) (nI_nm (by omega)) (nI_nm (by omega))) 3 [3, 4, 5, 6] [0, 1, 2] rfl rfl ⟨by decide, by decide, by decide⟩ ww_Reader_95 (by decide +kernel) rfl (by constructor <;> (dsimp only; omega)) ⟨Nat.le_of_ble_eq_true rfl, Nat.le_of_ble_eq_true rfl⟩ rfl rfl rfl rfl (Nat.le_of_ble_eq_true rfl) dX3_readTerm_70 (fun v_ w1_ hp => ?_)
                    obtain ⟨rfl, rfl⟩ := hp
                    show Z X (0) (0) (rdw E r (rt 0) (.ref (rp 0)) (mrd S (nI p3)) ++ tpw E rt ST ++ plw E rp (mpv SP (nI ((G3.length) + 1)) (upd o3 (G3.length) (nI (sx p2))) (upd l3 (G3.length) (nI j)) (upd r3 (G3.length) (nI j3)))) [(0, .ref (r 0)), (1, .int (nI op)), (2, .int (nI j)), (3, .int (nI i)), (4, .int (nI (sx p2)))] 73 [.int (nI (G3.length))]
                    refine z_istore_n (pc := 73) (lv' := [(0, .ref (r 0)), (1, .int (nI op)), (2, .int (nI (G3.length))), (3, .int (nI i)), (4, .int (nI (sx p2)))]) F dX3_readTerm_73 rfl (by decide) [1, 2, 0, 3, 4] rfl ?_
                    refine z_iinc (pc := 74) (v := nI (i + 1)) (lv' := [(0, .ref (r 0)), (1, .int (nI op)), (2, .int (nI (G3.length))), (3, .int (nI (i + 1))), (4, .int (nI (sx p2)))]) F (j := 3) dX3_readTerm_74 rfl (nI_1 _) (by decide) [1, 2, 3, 0, 4] rfl ?_
                    refine z_goto (pc := 77) (tgt := 8) F dX3_readTerm_77 (by decide) ?_
                    refine z_locals (lv' := [(0, .ref (r 0)), (1, .int (nI op)), (2, .int (nI (G3.length))), (3, .int (nI (i + 1)))]) [0, 1, 2, 3] rfl ?_
                    subst e4; rw [show G3.length + 1 = (G3 ++ [(sx p2, nI j, nI j3)]).length from (len_add _ _).symm]; have hA9 := hoN_add (c := sx p2) hho3 (c' := nI (sx p2)) (a := nI j) (b := nI j3) rfl; exact ih8 (i + 1) (nI G3.length) p3 (G3 ++ [(sx p2, nI j, nI j3)]) _ _ _ (by omega) (by omega) (by omega) (by rw [len_add]; omega) hA9 (Or.inl ⟨G3.length, k', c0 ++ (c3 ++ [(mulO (sx p2), 0)]), R5, rfl, by rw [len_add]; omega, by omega, h5, he1, he2, (by rw [List.append_assoc]; exact he3), by have h_ := BL_bin hB hB3 (f := mulO (sx p2)) (mulO_r _); rw [mulO_c kx] at h_; exact h_⟩)
                · have k43 : ¬ sx p2 = 37 := fun h => c43 (by rw [h]; rfl)
                  refine z_iload_n (pc := 46) F dX3_readTerm_46 rfl 2 rfl ?_
                  exact z_iret (pc := 47) F hR dX3_readTerm_47 (Nat.le_of_ble_eq_true rfl) (Nat.le_of_ble_eq_true rfl) (by have e4 := ps_8n hl (by omega); subst e4; exact ce_y he1 he2 he3 hho2 hln2 rfl hj (BLc hB))
        · skip
          refine z_iload_n (pc := 8) F dX3_readTerm_8 rfl 3 rfl ?_
          rcases hv with hv | hv
          · subst hv
            refine z_bipush (pc := 9) (v := 80) F dX3_readTerm_9 (by decide) ?_
            refine z_icmp_ge (pc := 11) (tgt := 80) F dX3_readTerm_11 (by decide) (fun c11 => ?_) (fun c11 => ?_)
            · have hi80 := gI (a := 80) (by decide) (by omega) c11
              have hz2 : sx p2 = 0 := h0 p2 (by omega)
              refine z_iload_n (pc := 80) F dX3_readTerm_80 rfl 2 rfl ?_
              exact z_iret (pc := 81) F hR dX3_readTerm_81 (Nat.le_of_ble_eq_true rfl) (Nat.le_of_ble_eq_true rfl) (ce_n he1 he2 hho2 hln2 (Or.inl rfl))
            · have hi80 := ngI (a := 80) (by decide) (by omega) c11
              refine z_iload_n (pc := 14) F dX3_readTerm_14 rfl 2 rfl ?_
              refine z_iconst (pc := 15) (v := (-1)) F dX3_readTerm_15 (by decide) ?_
              refine z_icmp_eq (pc := 16) (tgt := 80) F dX3_readTerm_16 (by decide) (fun _ => ?_) (fun h => absurd h (by decide))
              refine z_iload_n (pc := 80) F dX3_readTerm_80 rfl 2 rfl ?_
              exact z_iret (pc := 81) F hR dX3_readTerm_81 (Nat.le_of_ble_eq_true rfl) (Nat.le_of_ble_eq_true rfl) (ce_n he1 he2 hho2 hln2 (Or.inl rfl))
          · skip
            refine z_bipush (pc := 9) (v := 80) F dX3_readTerm_9 (by decide) ?_
            refine z_icmp_ge (pc := 11) (tgt := 80) F dX3_readTerm_11 (by decide) (fun c11 => ?_) (fun c11 => ?_)
            · have hi80 := gI (a := 80) (by decide) (by omega) c11
              have hz2 : sx p2 = 0 := h0 p2 (by omega)
              refine z_iload_n (pc := 80) F dX3_readTerm_80 rfl 2 rfl ?_
              exact z_iret (pc := 81) F hR dX3_readTerm_81 (Nat.le_of_ble_eq_true rfl) (Nat.le_of_ble_eq_true rfl) (ce_n he1 he2 hho2 hln2 (Or.inr hv))
            · have hi80 := ngI (a := 80) (by decide) (by omega) c11
              refine z_iload_n (pc := 14) F dX3_readTerm_14 rfl 2 rfl ?_
              refine z_iconst (pc := 15) (v := (-1)) F dX3_readTerm_15 (by decide) ?_
              refine z_icmp_eq (pc := 16) (tgt := 80) F dX3_readTerm_16 (by decide) (fun c16 => absurd c16 hv.1) (fun c16 => ?_)
              refine z_aload_n (pc := 19) F dX3_readTerm_19 rfl 0 rfl ?_
              refine z_callVW (pc := 20) (q0 := 0) (ci := 3) (rest := []) F (c_X3_peek l E r rt rp S ST (mpv SP (nI G2.length) o2 l2 r2) tp sx p2 ht hp2) 0 ww_Reader_51 (by decide +kernel) rfl (by constructor <;> (dsimp only; omega)) ⟨Nat.le_of_ble_eq_true rfl, Nat.le_of_ble_eq_true rfl⟩ rfl rfl rfl rfl (Nat.le_of_ble_eq_true rfl) dX3_readTerm_20 (fun v_ w1_ hp => ?_)
              obtain ⟨rfl, rfl⟩ := hp
              show Z X (0) (0) (rdw E r (rt 0) (.ref (rp 0)) (mrd S (nI p2)) ++ tpw E rt ST ++ plw E rp (mpv SP (nI G2.length) o2 l2 r2)) [(0, .ref (r 0)), (1, .int (nI op)), (2, .int all), (3, .int (nI i))] 23 [.int (nI (sx p2))]
              refine z_istore (pc := 23) (lv' := [(0, .ref (r 0)), (1, .int (nI op)), (2, .int all), (3, .int (nI i)), (4, .int (nI (sx p2)))]) F dX3_readTerm_23 (by decide) [1, 2, 3, 4, 0] rfl ?_
              refine z_iload (pc := 25) F dX3_readTerm_25 4 rfl ?_
              refine z_bipush (pc := 27) (v := 42) F dX3_readTerm_27 (by decide) ?_
              refine z_icmp_eq (pc := 29) (tgt := 48) F dX3_readTerm_29 (by decide) (fun c29 => absurd c29 (fun h => isD_ne hv.2 (by decide) (nIe (b := 42) (by have := hsx p2; omega) (by decide) h))) (fun c29 => ?_)
              have k29 : ¬ sx p2 = 42 := fun h => c29 (by rw [h]; rfl)
              refine z_iload (pc := 32) F dX3_readTerm_32 4 rfl ?_
              refine z_bipush (pc := 34) (v := 47) F dX3_readTerm_34 (by decide) ?_
              refine z_icmp_eq (pc := 36) (tgt := 48) F dX3_readTerm_36 (by decide) (fun c36 => absurd c36 (fun h => isD_ne hv.2 (by decide) (nIe (b := 47) (by have := hsx p2; omega) (by decide) h))) (fun c36 => ?_)
              have k36 : ¬ sx p2 = 47 := fun h => c36 (by rw [h]; rfl)
              refine z_iload (pc := 39) F dX3_readTerm_39 4 rfl ?_
              refine z_bipush (pc := 41) (v := 37) F dX3_readTerm_41 (by decide) ?_
              refine z_icmp_eq (pc := 43) (tgt := 48) F dX3_readTerm_43 (by decide) (fun c43 => absurd c43 (fun h => isD_ne hv.2 (by decide) (nIe (b := 37) (by have := hsx p2; omega) (by decide) h))) (fun c43 => ?_)
              have k43 : ¬ sx p2 = 37 := fun h => c43 (by rw [h]; rfl)
              refine z_iload_n (pc := 46) F dX3_readTerm_46 rfl 2 rfl ?_
              exact z_iret (pc := 47) F hR dX3_readTerm_47 (Nat.le_of_ble_eq_true rfl) (Nat.le_of_ble_eq_true rfl) (ce_n he1 he2 hho2 hln2 (Or.inr hv))
    exact L8 _ 0 (nI j1) p1 G1 o1_ l1_ r1_ (Nat.lt_succ_self _) (Nat.zero_le _) (by omega) hln1 hho1 (Or.inl ⟨j1, n', c1, R2, rfl, hj1, Nat.le_refl _, h2, rfl, rfl, rfl, hB1⟩)

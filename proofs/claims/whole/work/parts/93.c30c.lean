/-! paths and places of t -/
theorem wlk_s (S : zS) : ∀ (k : Nat) (o : Option Nat) (b : Int64), wlk S (k + 1) o b = (match wlk S k o b with
    | (none, h) => (none, h)
    | (some j, h) => (rfO S j, note h j))
  | 0, none, b => rfl
  | 0, some j, b => rfl
  | k + 1, none, b => by rw [wlk_none, wlk_none]
  | k + 1, some j, b => by
    show wlk S (k + 1) (rfO S j) (note b j) = _
    rw [wlk_s S k]
    rfl
theorem wlk_ob (S : zS) : ∀ (k : Nat) (o : Option Nat) (b b' : Int64), (wlk S k o b).1 = (wlk S k o b').1
  | 0, _, _, _ => rfl
  | k + 1, none, _, _ => rfl
  | k + 1, some j, b, b' => wlk_ob S k _ _ _
def PTH (SM SS : zS) (ro : Nat) (c : List (Nat × Nat)) (k : Nat) : Prop := (∀ N : List zNd, BP N c k) ∧ (∀ h : Nat, hxs c h = h + 1) ∧ c.length = k + 1 ∧ ∃ vis : Nat → Prop, ∀ (b : Int64) (h : Nat) (p : zP), (∀ o : Nat, o < 60 → (bitL (wlk SS k (some ro) b).2 o = true ↔ bitL b o = true ∨ vis o)) ∧ (∀ o : Nat, o < 60 → (¬ (rh SM ro c h p).2.2 o = 0 ↔ ¬ p.2.2 o = 0 ∨ vis o)) ∧ (rh SM ro c h p).2.1 h = oL (wlk SS k (some ro) 0).1 ∧ (¬ (wlk SS k (some ro) 0).1 = none → (rh SM ro c h p).1 = p.1) ∧ ∀ i : Nat, i < h → (rh SM ro c h p).2.1 i = p.2.1 i
section PT
variable {SM SS : zS} {m ro : Nat}
theorem PTH_0 : PTH SM SS ro [(1, 0)] 0 := by
  refine ⟨fun N => BP_0 N, fun h => rfl, rfl, fun _ => False, fun b h p => ⟨fun o _ => by simp [wlk], fun o _ => ?_, ?_, fun _ => rfl, fun i hi => ?_⟩⟩
  · show ¬ p.2.2 o = 0 ↔ _
    simp
  · show vp_updL p.2.1 (h + 1 - 1) (lN ro) h = _
    rw [Nat.add_sub_cancel, pk_uLs]; rfl
  · show vp_updL p.2.1 (h + 1 - 1) (lN ro) i = _
    rw [Nat.add_sub_cancel, pk_uLn (by omega)]
theorem bit_note {b : Int64} {j o : Nat} {P : Prop} (hj : j < 60) (ho : o < 60) (h : bitL b o = true ↔ P) : (bitL (note b j) o = true ↔ P ∨ some j = some o) := by
  rw [note_t (by omega) (by omega), Bool.or_eq_true, h, decide_eq_true_iff, Option.some.injEq]
theorem hg_upd {hg : Nat → Int32} {j o : Nat} {P : Prop} (h : ¬ hg o = 0 ↔ P) : (¬ upd hg j 1 o = 0 ↔ P ∨ some j = some o) := by
  by_cases e : o = j
  · subst e; rw [pk_us]; simp
  · rw [pk_un e, h]
    constructor
    · exact Or.inl
    · rintro (q | q)
      · exact q
      · exact absurd (Option.some.inj q).symm e
theorem PTH_s (hs : stOk SS m) (hR : sR SM SS m) (hro : ro < m) (hrt : ¬ za SS 1 ro = 0) {c : List (Nat × Nat)} {k : Nat} (h : PTH SM SS ro c k) : PTH SM SS ro (c ++ [(2, 0)]) (k + 1) := by
  obtain ⟨h1, h2, h3, vis, h4⟩ := h
  have hm := hs.1
  have hok := wlk_ok hs k (some ro) 0 (oOk_i hro hrt)
  refine ⟨fun N => BP_s (h1 N), fun h => by rw [hxs_app, h2]; rfl, by simp [h3], fun o => vis o ∨ (wlk SS k (some ro) 0).1 = some o, fun b h p => ?_⟩
  obtain ⟨a1, a2, a3, a4, a5⟩ := h4 b h p
  have er : rh SM ro (c ++ [(2, 0)]) h p = rst SM ro 2 (nI 0) h (rh SM ro c h p) := by
    rw [rh_app, h2]; rfl
  have ew := wlk_s SS k (some ro) b
  have ew0 := wlk_s SS k (some ro) 0
  have eob := wlk_ob SS k (some ro) b 0
  rw [er]
  cases hw : (wlk SS k (some ro) 0).1 with
  | none =>
    have hwb : (wlk SS k (some ro) b).1 = none := by rw [eob, hw]
    have e1 : wlk SS (k + 1) (some ro) b = (none, (wlk SS k (some ro) b).2) := by
      rw [ew]; rw [show wlk SS k (some ro) b = (none, (wlk SS k (some ro) b).2) from Prod.ext hwb rfl]
    have e0 : (wlk SS (k + 1) (some ro) 0).1 = none := by
      rw [ew0]; rw [show wlk SS k (some ro) 0 = (none, (wlk SS k (some ro) 0).2) from Prod.ext hw rfl]
    rw [hw] at a3
    have er2 : rst SM ro 2 (nI 0) h (rh SM ro c h p) = (1, vp_updL (rh SM ro c h p).2.1 h (-1), (rh SM ro c h p).2.2) := by
      show (if (rh SM ro c h p).2.1 h = -1 then _ else _) = _
      rw [if_pos (show (rh SM ro c h p).2.1 h = -1 from a3)]
    rw [er2, e1, e0]
    refine ⟨fun o ho => ?_, fun o ho => ?_, ?_, fun q => absurd rfl q, fun i hi => ?_⟩
    · rw [a1 o ho]; simp
    · rw [a2 o ho]; simp
    · show vp_updL _ h _ h = _
      rw [pk_uLs]; rfl
    · show vp_updL _ h _ i = _
      rw [pk_uLn (by omega), a5 i hi]
  | some j =>
    have hj := hok j hw
    have hwb : (wlk SS k (some ro) b).1 = some j := by rw [eob, hw]
    have e1 : wlk SS (k + 1) (some ro) b = (rfO SS j, note (wlk SS k (some ro) b).2 j) := by
      rw [ew]; rw [show wlk SS k (some ro) b = (some j, (wlk SS k (some ro) b).2) from Prod.ext hwb rfl]
    have e0 : (wlk SS (k + 1) (some ro) 0).1 = rfO SS j := by
      rw [ew0]; rw [show wlk SS k (some ro) 0 = (some j, (wlk SS k (some ro) 0).2) from Prod.ext hw rfl]
    rw [hw] at a3
    have a3' : (rh SM ro c h p).2.1 h = lN j := a3
    have hn : ¬ (rh SM ro c h p).2.1 h = -1 := by rw [a3']; exact lN_nm (by omega)
    have hcl : ((rh SM ro c h p).2.1 h).toNatClampNeg = j := by rw [a3']; exact lN_clamp (by omega)
    have er2 : rst SM ro 2 (nI 0) h (rh SM ro c h p) = ((rh SM ro c h p).1, vp_updL (rh SM ro c h p).2.1 h (effL SM j), upd (rh SM ro c h p).2.2 j 1) := by
      show (if (rh SM ro c h p).2.1 h = -1 then _ else _) = _
      rw [if_neg hn, hcl]
    rw [er2, e1, e0]
    refine ⟨fun o ho => ?_, fun o ho => ?_, ?_, fun _ => a4 (by rw [hw]; simp), fun i hi => ?_⟩
    · rw [bit_note (by omega) ho (a1 o ho), or_assoc]
    · show ¬ upd (rh SM ro c h p).2.2 j 1 o = 0 ↔ _
      rw [hg_upd (a2 o ho), or_assoc]
    · show vp_updL _ h _ h = _
      rw [pk_uLs, hR.1 j hj.1 hj.2]
    · show vp_updL _ h _ i = _
      rw [pk_uLn (by omega), a5 i hi]
theorem sem_num (v : Nat) : SEM SM SS ro false [(0, v)] := by
  intro N hN
  refine ⟨[(48, nI v, 0)], N.length, BL_num N v, by simp, by simp, fun h => rfl, fun V b h p hV => ?_⟩
  have hl : V.length < 2 ^ 31 := by simp at hN; omega
  refine ⟨[((nI v).toInt64, false)], b, fun _ => False, rfl, fun o _ => by simp, fun o _ => ?_, rfl, fun _ => ⟨?_, ?_, fun q => by cases q⟩, fun i hi => ?_⟩
  · show ¬ p.2.2 o = 0 ↔ _
    simp
  · show vp_updL p.2.1 (h + 1 - 1) (nI v).toInt64 h = _
    rw [Nat.add_sub_cancel, pk_uLs, gV_new V _ hV.symm (by omega)]
  · rw [gV_new V _ hV.symm (by omega)]
  · show vp_updL p.2.1 (h + 1 - 1) (nI v).toInt64 i = _
    rw [Nat.add_sub_cancel, pk_uLn (by omega)]
theorem rst_f {S : zS} {ro f b : Nat} {num : Int32} {p : zP} (hf : 3 ≤ f ∧ f ≤ 7) : rst S ro f num b p = (if p.2.1 b = -1 then (1, vp_updL p.2.1 b 0, p.2.2) else (p.1, vp_updL p.2.1 b (if f = 6 then (za S 6 (p.2.1 b).toNatClampNeg).toInt64 else if f = 7 then lN (p.2.1 b).toNatClampNeg else zb S 4 (3 * (p.2.1 b).toNatClampNeg + f - 3)), upd p.2.2 (p.2.1 b).toNatClampNeg 1)) := by
  rcases (show f = 3 ∨ f = 4 ∨ f = 5 ∨ f = 6 ∨ f = 7 by omega) with rfl | rfl | rfl | rfl | rfl <;> rfl
theorem fld_eq (hR : sR SM SS m) {f j : Nat} (hf : 3 ≤ f ∧ f ≤ 7) (hj : j < m) (ht : ¬ za SS 1 j = 0) : (if f = 6 then (za SM 6 j).toInt64 else if f = 7 then lN j else zb SM 4 (3 * j + f - 3)) = fldV SS (opC f) j := by
  rcases (show f = 3 ∨ f = 4 ∨ f = 5 ∨ f = 6 ∨ f = 7 by omega) with rfl | rfl | rfl | rfl | rfl
  · rw [if_neg (by decide), if_neg (by decide), show 3 * j + 3 - 3 = 3 * j + 0 by omega, hR.2.2.1 j 0 hj ht (by decide)]; rfl
  · rw [if_neg (by decide), if_neg (by decide), show 3 * j + 4 - 3 = 3 * j + 1 by omega, hR.2.2.1 j 1 hj ht (by decide)]; rfl
  · rw [if_neg (by decide), if_neg (by decide), show 3 * j + 5 - 3 = 3 * j + 2 by omega, hR.2.2.1 j 2 hj ht (by decide)]; rfl
  · rw [if_pos rfl, hR.2.1 j hj ht]; rfl
  · rw [if_neg (by decide), if_pos rfl]; rfl
theorem sem_fld (hs : stOk SS m) (hR : sR SM SS m) (hro : ro < m) (hrt : ¬ za SS 1 ro = 0) {c : List (Nat × Nat)} {k f : Nat} (h : PTH SM SS ro c k) (hf : 3 ≤ f ∧ f ≤ 7) : SEM SM SS ro false (c ++ [(f, 0)]) := by
  intro N hN
  obtain ⟨h1, h2, h3, vis, h4⟩ := h
  have hm := hs.1
  have hok := wlk_ok hs k (some ro) 0 (oOk_i hro hrt)
  refine ⟨[(opC f, nI k, -1)], N.length, BL_fld (h1 N) hf, by simp, by simp, fun h => ?_, fun V b h p hV => ?_⟩
  · rw [hxs_app, h2]
    show hx f (h + 1) = h + 1
    unfold hx; rw [if_neg (by omega), if_neg (by omega)]
  have hl : V.length < 2 ^ 31 := by simp only [List.length_append] at hN; omega
  have hk : k < 2 ^ 31 := by simp only [List.length_append] at hN; omega
  obtain ⟨a1, a2, a3, a4, a5⟩ := h4 b h p
  have er : rh SM ro (c ++ [(f, 0)]) h p = rst SM ro f (nI 0) h (rh SM ro c h p) := by
    rw [rh_app, h2]
    show rst SM ro f (nI 0) (hx f (h + 1) - 1) _ = _
    have : hx f (h + 1) = h + 1 := by unfold hx; rw [if_neg (by omega), if_neg (by omega)]
    rw [this]; rfl
  have ev : evL SS ro [(opC f, nI k, -1)] (V, b) = (V ++ [(evF SS (opC f) (wlk SS k (some ro) b)).1], (evF SS (opC f) (wlk SS k (some ro) b)).2) := by
    rw [evL_1]; unfold evS; rw [evN_f (opC_f hf) hk]
  have eob := wlk_ob SS k (some ro) b 0
  rw [er, rst_f hf, ev]
  cases hw : (wlk SS k (some ro) 0).1 with
  | none =>
    rw [hw] at a3
    rw [show wlk SS k (some ro) b = (none, (wlk SS k (some ro) b).2) from Prod.ext (by rw [eob, hw]) rfl, if_pos (show (rh SM ro c h p).2.1 h = -1 from a3)]
    refine ⟨_, _, vis, rfl, a1, a2, rfl, fun q => (by cases q), fun i hi => ?_⟩
    show vp_updL _ h _ i = _
    rw [pk_uLn (by omega), a5 i hi]
  | some j =>
    have hj := hok j hw
    rw [hw] at a3
    have a3' : (rh SM ro c h p).2.1 h = lN j := a3
    have hn : ¬ (rh SM ro c h p).2.1 h = -1 := by rw [a3']; exact lN_nm (by omega)
    have hcl : ((rh SM ro c h p).2.1 h).toNatClampNeg = j := by rw [a3']; exact lN_clamp (by omega)
    rw [show wlk SS k (some ro) b = (some j, (wlk SS k (some ro) b).2) from Prod.ext (by rw [eob, hw]) rfl, if_neg hn, hcl, fld_eq hR hf hj.1 hj.2]
    refine ⟨_, _, fun o => vis o ∨ some j = some o, rfl, fun o ho => ?_, fun o ho => ?_, a4 (by rw [hw]; simp), fun _ => ⟨?_, ?_, fun q => by cases q⟩, fun i hi => ?_⟩
    · show bitL (note _ j) o = true ↔ _
      rw [bit_note (by omega) ho (a1 o ho), or_assoc]
    · show ¬ upd (rh SM ro c h p).2.2 j 1 o = 0 ↔ _
      rw [hg_upd (a2 o ho), or_assoc]
    · show vp_updL _ h _ h = _
      rw [pk_uLs, gV_new V _ hV.symm (by omega)]; rfl
    · rw [gV_new V _ hV.symm (by omega)]; rfl
    · show vp_updL _ h _ i = _
      rw [pk_uLn (by omega), a5 i hi]
theorem rst_8 {S : zS} {ro b : Nat} {num : Int32} {p : zP} : rst S ro 8 num b p = (if p.2.1 b = -1 then (1, vp_updL p.2.1 b 0, p.2.2) else if p.2.1 (b + 1) < 0 ∨ (za S 6 (p.2.1 b).toNatClampNeg).toInt64 ≤ p.2.1 (b + 1) then (1, vp_updL p.2.1 b 0, upd p.2.2 (p.2.1 b).toNatClampNeg 1) else (p.1, vp_updL p.2.1 b (zb S 7 (8 * (p.2.1 b).toNatClampNeg + (p.2.1 (b + 1)).toNatClampNeg)), upd p.2.2 (p.2.1 b).toNatClampNeg 1)) := rfl
theorem sem_item (hs : stOk SS m) (hR : sR SM SS m) (hro : ro < m) (hrt : ¬ za SS 1 ro = 0) {c c3 : List (Nat × Nat)} {k : Nat} (h : PTH SM SS ro c k) (h3 : SEM SM SS ro false c3) : SEM SM SS ro false (c ++ (c3 ++ [(8, 0)])) := by
  intro N hN
  obtain ⟨p1, p2, p3, vis, p4⟩ := h
  have hm := hs.1
  have hok := wlk_ok hs k (some ro) 0 (oOk_i hro hrt)
  simp only [List.length_append, List.length_cons, List.length_nil] at hN
  have hk : k < 2 ^ 31 := by omega
  obtain ⟨M3, j3, b3, l3, k3, x3, f3⟩ := h3 N (by omega)
  simp only [List.length_append] at l3
  refine ⟨M3 ++ [(116, nI k, nI j3)], (N ++ M3).length, ?_, ?_, ?_, fun h => ?_, fun V b h p hV => ?_⟩
  · rw [show N ++ (M3 ++ [(116, nI k, nI j3)]) = N ++ M3 ++ [(116, nI k, nI j3)] from (List.append_assoc _ _ _).symm]; exact BL_item (p1 N) b3
  · simp only [List.length_append, List.length_cons, List.length_nil]; omega
  · simp only [List.length_append, List.length_cons, List.length_nil]; omega
  · rw [hxs_app, p2, hxs_app, x3]; rfl
  obtain ⟨a1, a2, a3, a4, a5⟩ := p4 0 h p
  obtain ⟨W, b', vis3, e3, q3, r3, g3, v3, i3⟩ := f3 V b (h + 1) (rh SM ro c h p) hV
  have w3 := W_len e3
  obtain ⟨c1, -⟩ := p4 b' h p
  have er : rh SM ro (c ++ (c3 ++ [(8, 0)])) h p = rst SM ro 8 (nI 0) h (rh SM ro c3 (h + 1) (rh SM ro c h p)) := by
    rw [rh_app, p2, rh_app, x3]; rfl
  have hy : evL SS ro (M3 ++ [(116, nI k, nI j3)]) (V, b) = (V ++ (W ++ [(evT SS (gV (V ++ W) (nI j3)) (wlk SS k (some ro) b')).1]), (evT SS (gV (V ++ W) (nI j3)) (wlk SS k (some ro) b')).2) := by
    rw [evL_app, e3, evL_1]
    unfold evS
    rw [evN_t hk]
    simp only [List.append_assoc]
  have eob := wlk_ob SS k (some ro) b' 0
  have es : (rh SM ro c3 (h + 1) (rh SM ro c h p)).2.1 h = oL (wlk SS k (some ro) 0).1 := by rw [i3 h (by omega)]; exact a3
  have hlen : (N ++ M3).length = (V ++ W).length := by simp only [List.length_append]; omega
  have hl2 : (N ++ M3).length < 2 ^ 31 := by simp only [List.length_append]; omega
  rw [er, rst_8, hy]
  generalize hP2 : rh SM ro c3 (h + 1) (rh SM ro c h p) = P2 at *
  generalize hY : gV (V ++ W) (nI j3) = Y at *
  have vv : ∀ o : Nat, o < 60 → (bitL (wlk SS k (some ro) b').2 o = true ↔ bitL b o = true ∨ (vis o ∨ vis3 o)) := fun o ho => by
    rw [c1 o ho, q3 o ho, or_assoc, or_comm (a := vis o)]
  have vh : ∀ o : Nat, o < 60 → (¬ P2.2.2 o = 0 ↔ ¬ p.2.2 o = 0 ∨ (vis o ∨ vis3 o)) := fun o ho => by
    rw [r3 o ho, a2 o ho, or_assoc]
  cases hw : (wlk SS k (some ro) 0).1 with
  | none =>
    rw [hw] at es
    rw [show wlk SS k (some ro) b' = (none, (wlk SS k (some ro) b').2) from Prod.ext (by rw [eob, hw]) rfl, if_pos (show P2.2.1 h = -1 from es)]
    refine ⟨_, _, fun o => vis o ∨ vis3 o, rfl, vv, vh, ?_, fun q => ?_, fun i hi => ?_⟩
    · rw [List.any_append]; simp [evT]
    · rw [List.any_append] at q; simp [evT] at q
    · show vp_updL _ h _ i = _
      rw [pk_uLn (by omega), i3 i (by omega), a5 i hi]
  | some j =>
    have hj := hok j hw
    rw [hw] at es
    have es' : P2.2.1 h = lN j := es
    have hn : ¬ P2.2.1 h = -1 := by rw [es']; exact lN_nm (by omega)
    have hcl : (P2.2.1 h).toNatClampNeg = j := by rw [es']; exact lN_clamp (by omega)
    have hp1 : (rh SM ro c h p).1 = p.1 := a4 (by rw [hw]; simp)
    rw [show wlk SS k (some ro) b' = (some j, (wlk SS k (some ro) b').2) from Prod.ext (by rw [eob, hw]) rfl, if_neg hn, hcl, hR.2.1 j hj.1 hj.2]
    have eT : evT SS Y (some j, (wlk SS k (some ro) b').2) = (if Y.2 then (0, true) else itmV SS j Y.1, note (wlk SS k (some ro) b').2 j) := rfl
    rw [eT]
    have v2 : ∀ o : Nat, o < 60 → (bitL (note (wlk SS k (some ro) b').2 j) o = true ↔ bitL b o = true ∨ ((vis o ∨ vis3 o) ∨ some j = some o)) := fun o ho => by
      rw [bit_note (by omega) ho (vv o ho), or_assoc]
    have h2 : ∀ o : Nat, o < 60 → (¬ upd P2.2.2 j 1 o = 0 ↔ ¬ p.2.2 o = 0 ∨ ((vis o ∨ vis3 o) ∨ some j = some o)) := fun o ho => by
      rw [hg_upd (vh o ho), or_assoc]
    have st : ∀ (x : Int64) (i : Nat), i < h → vp_updL P2.2.1 h x i = p.2.1 i := fun x i hi => by
      rw [pk_uLn (by omega), i3 i (by omega), a5 i hi]
    cases hA : W.any (·.2) with
    | true =>
      have g1 : P2.1 = 1 := by rw [g3, if_pos hA]
      by_cases hc : P2.2.1 (h + 1) < 0 ∨ (za SS 4 j).toInt64 ≤ P2.2.1 (h + 1)
      · rw [if_pos hc]
        refine ⟨_, _, _, rfl, v2, h2, ?_, fun q => ?_, fun i hi => st _ i hi⟩
        · rw [List.any_append, hA]; rfl
        · rw [List.any_append, hA] at q; cases q
      · rw [if_neg hc]
        refine ⟨_, _, _, rfl, v2, h2, ?_, fun q => ?_, fun i hi => st _ i hi⟩
        · rw [List.any_append, hA]; exact g1
        · rw [List.any_append, hA] at q; cases q
    | false =>
      obtain ⟨z1, z2, -⟩ := v3 hA
      have g1 : P2.1 = p.1 := by rw [g3, if_neg (by rw [hA]; decide), hp1]
      rw [z2, z1]
      by_cases hc : Y.1 < 0 ∨ (za SS 4 j).toInt64 ≤ Y.1
      · have hi : itmV SS j Y.1 = (0, true) := by unfold itmV; rw [if_neg (fun q => hc.elim q.1 q.2)]
        rw [if_pos hc, if_neg (by decide), hi]
        refine ⟨_, _, _, rfl, v2, h2, ?_, fun q => ?_, fun i hi => st _ i hi⟩
        · rw [List.any_append, hA]; rfl
        · rw [List.any_append, hA] at q; cases q
      · have hc2 : ¬ Y.1 < 0 ∧ ¬ (za SS 4 j).toInt64 ≤ Y.1 := ⟨fun z => hc (Or.inl z), fun z => hc (Or.inr z)⟩
        obtain ⟨q8, hq8, hqe, -, -⟩ := has_q hs hj.1 hc2.1 hc2.2
        have hi : itmV SS j Y.1 = (zb SS 6 (8 * j + Y.1.toNatClampNeg), false) := by unfold itmV; rw [if_pos hc2]
        rw [if_neg hc, if_neg (by decide), hi]
        refine ⟨_, _, _, rfl, v2, h2, ?_, fun _ => ⟨?_, ?_, fun q => by cases q⟩, fun i hi => st _ i hi⟩
        · rw [List.any_append, hA]; exact g1
        · show vp_updL _ h _ h = _
          rw [pk_uLs, ← List.append_assoc, gV_new (V ++ W) _ hlen hl2]
          show _ = zb SS 6 (8 * j + Y.1.toNatClampNeg)
          rw [hqe, lN_clamp (by omega)]
          exact hR.2.2.2.1 j q8 hj.1 hj.2 hq8
        · rw [← List.append_assoc, gV_new (V ++ W) _ hlen hl2]
end PT

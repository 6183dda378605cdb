/-! the TAPE of both, and the beginning -/
theorem okB_n {w : Int64} {j : Nat} (h : okB w j = true) : ∃ v : Nat, v < 127 ∧ byI w j = nI v := by
  obtain ⟨h1, h2⟩ := of_decide_eq_true h
  have e33 : (33 : Int32).toInt = 33 := by decide
  have e0 : (0 : Int32).toInt = 0 := by decide
  have h0 : ¬ byI w j < 0 := fun z => h1 (by rw [Int32.lt_iff_toInt_lt] at *; omega)
  obtain ⟨v, hv, e⟩ := nI_of h0
  refine ⟨v, ?_, e⟩
  rw [e] at h2
  have := gI (b := 126) hv (by decide) h2
  omega
def tpN (t : Nat → Nat) (tp nn : Nat) (w : Int64) : Nat → Nat := fun k => if k < tp then t k else if k < tp + nn then (byI w (nn - 1 - (k - tp))).toNatClampNeg else 0
theorem tpN_at {t : Nat → Nat} {tp nn : Nat} {w : Int64} (hall : ∀ j : Nat, j < nn → okB w j = true) {f g : Nat → Int32} (hg : ∀ k : Nat, k < tp → g k = nI (t k)) (h1 : ∀ k : Nat, k < tp → f k = g k) (h2 : ∀ i : Nat, i < nn → f (tp + i) = byI w (nn - 1 - i)) : ∀ k : Nat, k < tp + nn → f k = nI (tpN t tp nn w k) := fun k hk => by
  unfold tpN
  by_cases e : k < tp
  · rw [if_pos e, h1 k e, hg k e]
  · rw [if_neg e, if_pos hk]
    obtain ⟨i, rfl⟩ : ∃ i, k = tp + i := ⟨k - tp, by omega⟩
    rw [show tp + i - tp = i by omega, h2 i (by omega)]
    obtain ⟨v, hv, e2⟩ := okB_n (hall (nn - 1 - i) (by omega))
    rw [e2, nI_clamp (by omega)]
theorem tpN_b {t : Nat → Nat} {tp nn : Nat} {w : Int64} (hall : ∀ j : Nat, j < nn → okB w j = true) (ht : ∀ k : Nat, t k < 127) : (∀ k : Nat, tp + nn ≤ k → tpN t tp nn w k = 0) ∧ ∀ k : Nat, tpN t tp nn w k < 127 := by
  refine ⟨fun k hk => ?_, fun k => ?_⟩
  · unfold tpN; rw [if_neg (by omega), if_neg (by omega)]
  · unfold tpN
    split
    · exact ht k
    · split
      · obtain ⟨v, hv, e2⟩ := okB_n (hall (nn - 1 - (k - tp)) (by omega))
        rw [e2, nI_clamp (by omega)]; exact hv
      · omega
theorem tp_ty {SM ST SM' ST' : zS} {tp nn : Nat} {w : Int64} {t : Nat → Nat} (h1 : tpo SM tp t) (h2 : tpC ST tp t) (hs : tp + nn ≤ 80) (hall : ∀ j : Nat, j < nn → okB w j = true) (i1 : zi SM' 1 = nI (tp + nn)) (i0 : zi ST' 0 = nI (tp + nn)) (a1 : ∀ k : Nat, k < tp → za SM' 1 k = za SM 1 k) (a2 : ∀ i : Nat, i < nn → za SM' 1 (tp + i) = byI w (nn - 1 - i)) (b1 : ∀ k : Nat, k < tp → za ST' 1 k = za ST 1 k) (b2 : ∀ i : Nat, i < nn → za ST' 1 (tp + i) = byI w (nn - 1 - i)) : ∃ (tp : Nat) (t : Nat → Nat), tpo SM' tp t ∧ tpC ST' tp t := by
  have hb := tpN_b (tp := tp) hall h1.2.2.2.2
  exact ⟨tp + nn, tpN t tp nn w, ⟨i1, hs, tpN_at hall h1.2.2.1 a1 a2, hb.1, hb.2⟩, ⟨i0, hs, tpN_at hall h2.2.2.1 b1 b2, hb.1, hb.2⟩⟩
section RT
variable {SM SM' SS ST ST' : zS} {SK SG SP : Nat → zS} {m nq : Nat} {D : Nat → Nat → zD} {G : Nat → List zNd} {lm : Nat → Nat} {sx : Nat → Nat → Nat} {c : Nat → zC}
theorem REL_tp (h : REL SM SS ST SK SG SP m nq D G lm sx c) (hT : ∃ (tp : Nat) (t : Nat → Nat), tpo SM' tp t ∧ tpC ST' tp t) (i2 : zi SM' 2 = zi SM 2) (i3 : zi SM' 3 = zi SM 3) (i4 : zi SM' 4 = zi SM 4) (a2 : za SM' 2 = za SM 2) (a3 : za SM' 3 = za SM 3) (a5 : za SM' 5 = za SM 5) (a6 : za SM' 6 = za SM 6) (a8 : za SM' 8 = za SM 8) (a9 : za SM' 9 = za SM 9) (a10 : za SM' 10 = za SM 10) (a11 : za SM' 11 = za SM 11) (a12 : za SM' 12 = za SM 12) (a13 : za SM' 13 = za SM 13) (b4 : zb SM' 4 = zb SM 4) (b7 : zb SM' 7 = zb SM 7) : REL SM' SS ST' SK SG SP m nq D G lm sx c := by
  obtain ⟨⟨h1, h2, h3, h4⟩, ⟨h5, h6⟩, h7, h8, ⟨h9, h10⟩, hz0, -⟩ := h
  refine ⟨⟨h1, objOk_of a5 a6 h2, by rw [i2]; exact h3, sR2_of a2 a3 a5 a6 b4 b7 h4⟩, ⟨h5, by rw [i3]; exact h6⟩, fun q hq => ?_, h8, ⟨by rw [i4]; exact h9, by rw [a13]; exact h10⟩, hz0, hT⟩
  obtain ⟨k1, k2, k3, k4, k5, k6, k7, k8⟩ := h7 q hq
  exact ⟨k1, qR_of (by rw [a8]) a11 a12 k2, k3, k4, k5, qok_11 a11 a10 k6, by rw [a9]; exact k7, k8⟩
theorem fD_none : ∀ n : Nat, fD (fun _ => none) n = []
  | 0 => rfl
  | n + 1 => by
    show fD (fun _ => none) n = []
    exact fD_none n
theorem k0_0 : k0 zS0 zS0 := by
  have e : fD (fun _ => none) 60 = [] := fD_none 60
  refine ⟨?_, ⟨?_, fun o _ => rfl, fun o k g a _ h => by cases h⟩, ?_, ?_⟩
  · unfold oD; rw [e]; rfl
  · unfold oD; rw [e]; intro i x hx; simp at hx
  · rw [e]; rfl
  · rw [e]; intro i x hx; simp [gL_eq] at hx
theorem REL_0 (D : Nat → Nat → zD) (G : Nat → List zNd) (lm : Nat → Nat) (sx : Nat → Nat → Nat) (c : Nat → zC) (h2 : zi SM 2 = 0) (h3 : zi SM 3 = 0) (h4 : zi SM 4 = 0) (h1 : zi SM 1 = 0) (ho : objOk SM) (hz : ∀ o : Nat, o < 60 → za SM 6 o = 0 ∧ (∀ p : Nat, p < 3 → zb SM 4 (3 * o + p) = 0) ∧ ∀ i : Nat, i < 8 → zb SM 7 (8 * o + i) = 0) : REL SM zS0 zS0 (fun _ => zS0) (fun _ => zS0) SP 0 0 D G lm sx c := by
  refine ⟨⟨⟨by decide, rfl, fun o h => absurd h (by omega), fun o h => absurd h (by omega)⟩, ho, h2, ⟨⟨fun o h => absurd h (by omega), fun o h => absurd h (by omega), fun o p h => absurd h (by omega), fun o p h => absurd h (by omega), fun o h => absurd h (by omega), fun o h => absurd h (by omega)⟩, fun o h => absurd h (by omega), fun o _ h60 => ⟨(hz o h60).1, rfl, (hz o h60).2.1, (hz o h60).2.2⟩⟩⟩, ⟨by decide, h3⟩, fun q hq => absurd hq (by omega), fun q _ _ => ⟨k0_0, rfl, rfl⟩, ⟨h4, fun i x hx => by simp [dLs] at hx⟩, (fun o h => absurd h (by omega)), 0, _, tp_0 h1 rfl⟩
end RT

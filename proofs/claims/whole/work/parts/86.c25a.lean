/-! what was read is a good plan -/
def nok (N : List zNd) : Prop := ∀ i x, N[i]? = some x → nOk i x
def sok (n B : Nat) (st : List zK) : Prop := ∀ s ∈ st, match s with
  | .inl k => k ≤ B
  | .inr j => j < n
theorem nok_add {N : List zNd} {x : zNd} (h : nok N) (hx : nOk N.length x) : nok (N ++ [x]) := by
  intro i y hy
  by_cases hi : i < N.length
  · rw [List.getElem?_append_left hi] at hy; exact h i y hy
  · rw [List.getElem?_append_right (by omega)] at hy
    have h1 := (List.getElem?_eq_some_iff.mp hy).1
    have h2 : i = N.length := by rw [List.length_singleton] at h1; omega
    rw [h2, Nat.sub_self] at hy
    cases hy
    rw [h2]; exact hx
theorem sok_w {n n' B B' : Nat} {st : List zK} (h : sok n B st) (hn : n ≤ n') (hB : B ≤ B') : sok n' B' st := fun s hs => by
  have := h s hs
  cases s with
  | inl k => exact Nat.le_trans this hB
  | inr j => exact Nat.lt_of_lt_of_le this hn
theorem opC_f {f : Nat} (h : 3 ≤ f ∧ f ≤ 7) : isF (opC f) := by
  rcases (show f = 3 ∨ f = 4 ∨ f = 5 ∨ f = 6 ∨ f = 7 by omega) with rfl | rfl | rfl | rfl | rfl <;> decide
theorem opC_p {f : Nat} (h : 10 ≤ f ∧ f ≤ 20) : isP (opC f) := by
  rcases (show f = 10 ∨ f = 11 ∨ f = 12 ∨ f = 13 ∨ f = 14 ∨ f = 15 ∨ f = 16 ∨ f = 17 ∨ f = 18 ∨ f = 19 ∨ f = 20 by omega) with rfl | rfl | rfl | rfl | rfl | rfl | rfl | rfl | rfl | rfl | rfl <;> decide
theorem bNew_ok {N N' : List zNd} {c B : Nat} {a b : Int32} {st st' : List zK} (h : bNew N c a b st = some (N', st')) (hN : nok N) (hs : sok N.length B st) (hx : nOk N.length (c, a, b)) : nok N' ∧ sok N'.length (B + 1) st' ∧ N.length ≤ N'.length := by
  cases h
  refine ⟨nok_add hN hx, fun s hs' => ?_, by simp⟩
  rcases List.mem_cons.mp hs' with e | e
  · subst e; show N.length < (N ++ [(c, a, b)]).length; simp
  · exact sok_w hs (by simp) (by omega) s e
theorem bS_ok {x : Nat × Nat} {N N' : List zNd} {B : Nat} {st st' : List zK} (h : bS x (N, st) = some (N', st')) (hN : nok N) (hs : sok N.length B st) (hB : B < 999) : nok N' ∧ sok N'.length (B + 1) st' ∧ N.length ≤ N'.length := by
  unfold bS at h
  dsimp only at h
  by_cases h0 : x.1 = 0
  · rw [if_pos h0] at h
    exact bNew_ok h hN hs (Or.inl rfl)
  rw [if_neg h0] at h
  by_cases h1 : x.1 = 1
  · rw [if_pos h1] at h
    cases h
    refine ⟨hN, fun s hs' => ?_, Nat.le_refl _⟩
    rcases List.mem_cons.mp hs' with e | e
    · subst e; exact Nat.zero_le _
    · exact sok_w hs (Nat.le_refl _) (by omega) s e
  rw [if_neg h1] at h
  match st, h, hs with
  | [], h, _ => cases h
  | .inl k :: st, h, hs =>
    have hk : k ≤ B := hs (.inl k) List.mem_cons_self
    have hs2 : sok N.length B st := fun s q => hs s (List.mem_cons_of_mem _ q)
    dsimp only at h
    by_cases h2 : x.1 = 2
    · rw [if_pos h2] at h
      cases h
      refine ⟨hN, fun s hs' => ?_, Nat.le_refl _⟩
      rcases List.mem_cons.mp hs' with e | e
      · subst e; show k + 1 ≤ B + 1; omega
      · exact sok_w hs2 (Nat.le_refl _) (by omega) s e
    · rw [if_neg h2] at h
      by_cases h3 : 3 ≤ x.1 ∧ x.1 ≤ 7
      · rw [if_pos h3] at h
        exact bNew_ok h hN hs2 (Or.inr (Or.inl ⟨opC_f h3, k, by omega, rfl⟩))
      · rw [if_neg h3] at h; cases h
  | .inr b :: st, h, hs =>
    have hb : b < N.length := hs (.inr b) List.mem_cons_self
    have hs2 : sok N.length B st := fun s q => hs s (List.mem_cons_of_mem _ q)
    dsimp only at h
    by_cases h9 : x.1 = 9 ∨ x.1 = 21
    · rw [if_pos h9] at h
      exact bNew_ok h hN hs2 (Or.inr (Or.inr (Or.inr ⟨(by show isP (opC x.1); rcases h9 with e | e <;> rw [e] <;> decide), b, b, hb, hb, rfl, rfl⟩)))
    · rw [if_neg h9] at h
      match st, h, hs2 with
      | [], h, _ => cases h
      | .inl k :: st, h, hs2 =>
        have hk : k ≤ B := hs2 (.inl k) List.mem_cons_self
        have hs3 : sok N.length B st := fun s q => hs2 s (List.mem_cons_of_mem _ q)
        dsimp only at h
        by_cases h8 : x.1 = 8
        · rw [if_pos h8] at h
          exact bNew_ok h hN hs3 (Or.inr (Or.inr (Or.inl ⟨rfl, k, b, by omega, hb, rfl, rfl⟩)))
        · rw [if_neg h8] at h; cases h
      | .inr a :: st, h, hs2 =>
        have ha : a < N.length := hs2 (.inr a) List.mem_cons_self
        have hs3 : sok N.length B st := fun s q => hs2 s (List.mem_cons_of_mem _ q)
        dsimp only at h
        by_cases hp : 10 ≤ x.1 ∧ x.1 ≤ 20
        · rw [if_pos hp] at h
          exact bNew_ok h hN hs3 (Or.inr (Or.inr (Or.inr ⟨opC_p hp, a, b, ha, hb, rfl, rfl⟩)))
        · rw [if_neg hp] at h; cases h
theorem bL_ok : ∀ (c : List (Nat × Nat)) (N N' : List zNd) (B : Nat) (st st' : List zK), bL c (N, st) = some (N', st') → nok N → sok N.length B st → B + c.length ≤ 999 → nok N' ∧ N.length ≤ N'.length
  | [], N, N', B, st, st', h, hN, _, _ => by cases h; exact ⟨hN, Nat.le_refl _⟩
  | x :: c, N, N', B, st, st', h, hN, hs, hB => by
    simp only [List.length_cons] at hB
    unfold bL at h
    cases e : bS x (N, st) with
    | none => rw [e] at h; cases h
    | some t =>
      obtain ⟨N1, st1⟩ := t
      rw [e] at h
      obtain ⟨a1, a2, a3⟩ := bS_ok e hN hs (by omega)
      obtain ⟨b1, b2⟩ := bL_ok c N1 N' (B + 1) st1 st' h a1 a2 (by omega)
      exact ⟨b1, by omega⟩
theorem PF_ok {G G' : List zNd} {c : List (Nat × Nat)} {f : Int32} (h : PF G c G' f) (hN : nok G) (hc : c.length ≤ 160) : nok G' ∧ G.length ≤ G'.length ∧ fOk G'.length f := by
  rcases h with ⟨-, rfl, rfl⟩ | ⟨j, rfl, hj, hB⟩
  · exact ⟨hN, Nat.le_refl _, Or.inl rfl⟩
  · obtain ⟨a, b⟩ := bL_ok c G G' 0 [] _ (hB []) hN (fun s hs => absurd hs (by simp)) (by omega)
    exact ⟨a, b, Or.inr ⟨j, hj, rfl⟩⟩
theorem fOk_w {n n' : Nat} {f : Int32} (h : fOk n f) (hn : n ≤ n') : fOk n' f := by
  rcases h with h | ⟨j, hj, h⟩
  · exact Or.inl h
  · exact Or.inr ⟨j, by omega, h⟩
theorem pq_inv {r : Option zRs} {f : Nat → List (Nat × Nat) → Option zQr} {R : zQr} (h : pq r f = some R) (hR : R.1 = true) : ∃ p c, r = some (true, p, c) ∧ f p c = some R := by
  match r, h with
  | none, h => cases h
  | some (false, p, c), h => cases h; cases hR
  | some (true, p, c), h => exact ⟨p, c, rfl, h⟩
theorem opt_len {tp : Nat} {sx : Nat → Nat} (h0 : ∀ k : Nat, tp ≤ k → sx k = 0) (ht : tp ≤ 80) {stop md p q : Nat} {c : List (Nat × Nat)} (hmd : md ≤ 9) (hp : p ≤ tp) (h : optP sx 1000 stop md p = some (true, q, c)) : q ≤ tp ∧ c.length ≤ 160 := by
  unfold optP at h
  split at h
  · cases h; exact ⟨hp, by simp⟩
  · have b := ps_b h0 _ _ _ _ _ (by omega) h
    have b3 := b.2.2 rfl
    have b2 := b.2.1 hp
    dsimp only at b2 b3
    rw [if_neg (by omega)] at b3
    exact ⟨b2, by omega⟩
theorem dgs2 {sx : Nat → Nat} (p : Nat) : (dgs sx 2 p 0).2 < 100 := by
  unfold dgs
  split
  next h1 =>
    have a1 := isD_t h1
    unfold dgs
    split
    next h2 =>
      have a2 := isD_t h2
      unfold dgs
      dsimp only
      omega
    next => dsimp only; omega
  next => show 0 < 100; omega
theorem rq_ok {tp : Nat} {sx : Nat → Nat} (h0 : ∀ k : Nat, tp ≤ k → sx k = 0) (ht : tp ≤ 80) {R : zQr} (h : rq sx 1000 = some R) (hR : R.1 = true) : R.2.2.1 < 100 ∧ ∀ c ∈ R.2.2.2, c.length ≤ 160 := by
  have lt : ∀ {p c : Nat}, sx p = c → ¬ c = 0 → p < tp := fun h hc => sx_lt h0 (by rw [h]; exact hc)
  unfold rq at h
  split at h
  next =>
    split at h
    next e1 =>
      have t1 := lt e1 (by decide)
      obtain ⟨p0, c0, g0, h⟩ := pq_inv h hR
      obtain ⟨q0, l0⟩ := opt_len h0 ht (by decide) (by omega) g0
      unfold rq0 at h
      split at h
      next e2 =>
        have t2 := lt e2 (by decide)
        obtain ⟨p1, c1, g1, h⟩ := pq_inv h hR
        obtain ⟨q1, l1⟩ := opt_len h0 ht (by decide) (by omega) g1
        unfold rq1 at h
        split at h
        next e3 =>
          have t3 := lt e3 (by decide)
          have hd := (dgs_b h0 2 (p1 + 1) 0).2.1 (by omega)
          have hl := dgs2 (sx := sx) (p1 + 1)
          unfold rq2 at h
          split at h
          next e4 =>
            have t4 := lt e4 (by decide)
            obtain ⟨p2, c2, g2, h⟩ := pq_inv h hR
            obtain ⟨q2, l2⟩ := opt_len h0 ht (by decide) (by omega) g2
            unfold rq3 at h
            split at h
            next e5 =>
              have t5 := lt e5 (by decide)
              obtain ⟨p3, c3, g3, h⟩ := pq_inv h hR
              obtain ⟨q3, l3⟩ := opt_len h0 ht (by decide) (by omega) g3
              cases h
              refine ⟨hl, fun c hc => ?_⟩
              simp only [List.mem_cons, List.mem_nil_iff, or_false] at hc
              rcases hc with e | e | e | e <;> rw [e] <;> assumption
            next => cases h; cases hR
          next => cases h; cases hR
        next => cases h; cases hR
      next => cases h; cases hR
    next => cases h; cases hR
  next => cases h; cases hR
theorem cdone_ok {tp : Nat} {sx : Nat → Nat} (h0 : ∀ k : Nat, tp ≤ k → sx k = 0) (ht : tp ≤ 80) {R : zQr} (hQ : rq sx 1000 = some R) (hR : R.1 = true) {S : zS} {G : List zNd} (h1 : zi S 0 = nI G.length) (h2 : hoN G (za S 1) (za S 2) (za S 3)) (h3 : cdone sx R G (zi S 1) (zi S 2) (zi S 3) (zi S 4) (zi S 5) (zi S 6)) : plOk S G ∧ R.2.2.1 < 100 ∧ zi S 2 = nI R.2.2.1 := by
  obtain ⟨hl, hc⟩ := rq_ok h0 ht hQ hR
  obtain ⟨c0, c1, c2, c3, G0, G1, G2, e, p0, p1, p2, p3, hG, hkd, hlm⟩ := h3
  rw [e] at hc
  obtain ⟨n0, m0, f0⟩ := PF_ok p0 (fun i x hx => by simp at hx) (hc c0 (by simp))
  obtain ⟨n1, m1, f1⟩ := PF_ok p1 n0 (hc c1 (by simp))
  obtain ⟨n2, m2, f2⟩ := PF_ok p2 n1 (hc c2 (by simp))
  obtain ⟨n3, m3, f3⟩ := PF_ok p3 n2 (hc c3 (by simp))
  exact ⟨⟨h1, hG, h2, n3, fOk_w f0 (by omega), fOk_w f1 (by omega), fOk_w f2 (by omega), f3, _, hl, hlm⟩, hl, hlm⟩
/-- no row is in yet -/
def k0 (SK SG : zS) : Prop := zi SK 0 = nI (oD (fun _ => none)).length ∧ kI (fun _ => none) (za SK 2) (zb SK 3) (zb SK 4) (zb SK 5) (za SK 6) ∧ gI_ (fun _ => none) SG
abbrev rqF (sx : Nat → Nat) (N : Nat) : Option zQr := rq sx N

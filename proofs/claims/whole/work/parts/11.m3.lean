/-! one step of the reference's machine, as a function; what a code may find on the stack (true: an OBJECT or none) -/
def effL (S : zS) (j : Nat) : Int64 := if za S 5 j = -1 then -1 else if za S 2 (za S 5 j).toNatClampNeg = 0 then -1 else lN (za S 5 j).toNatClampNeg
def rst (S : zS) (ro op : Nat) (num : Int32) (b : Nat) (p : Int32 × (Nat → Int64) × (Nat → Int32)) : Int32 × (Nat → Int64) × (Nat → Int32) :=
  if op = 0 then (p.1, vp_updL p.2.1 b num.toInt64, p.2.2)
  else if op = 1 then (p.1, vp_updL p.2.1 b (lN ro), p.2.2)
  else if op = 2 then (if p.2.1 b = -1 then (1, vp_updL p.2.1 b (-1), p.2.2) else (p.1, vp_updL p.2.1 b (effL S (p.2.1 b).toNatClampNeg), upd p.2.2 (p.2.1 b).toNatClampNeg 1))
  else if op = 6 then (if p.2.1 b = -1 then (1, vp_updL p.2.1 b 0, p.2.2) else (p.1, vp_updL p.2.1 b (za S 6 (p.2.1 b).toNatClampNeg).toInt64, upd p.2.2 (p.2.1 b).toNatClampNeg 1))
  else if op = 7 then (if p.2.1 b = -1 then (1, vp_updL p.2.1 b 0, p.2.2) else (p.1, vp_updL p.2.1 b (lN (p.2.1 b).toNatClampNeg), upd p.2.2 (p.2.1 b).toNatClampNeg 1))
  else if op = 8 then (if p.2.1 b = -1 then (1, vp_updL p.2.1 b 0, p.2.2) else if p.2.1 (b + 1) < 0 ∨ (za S 6 (p.2.1 b).toNatClampNeg).toInt64 ≤ p.2.1 (b + 1) then (1, vp_updL p.2.1 b 0, upd p.2.2 (p.2.1 b).toNatClampNeg 1) else (p.1, vp_updL p.2.1 b (zb S 7 (8 * (p.2.1 b).toNatClampNeg + (p.2.1 (b + 1)).toNatClampNeg)), upd p.2.2 (p.2.1 b).toNatClampNeg 1))
  else if op = 9 then (p.1, vp_updL p.2.1 b (-(p.2.1 b)), p.2.2)
  else if op = 21 then (p.1, vp_updL p.2.1 b (1 - p.2.1 b), p.2.2)
  else if op < 6 then (if p.2.1 b = -1 then (1, vp_updL p.2.1 b 0, p.2.2) else (p.1, vp_updL p.2.1 b (zb S 4 (3 * (p.2.1 b).toNatClampNeg + op - 3)), upd p.2.2 (p.2.1 b).toNatClampNeg 1))
  else (rkA op (p.2.1 (b + 1)) p.1, vp_updL p.2.1 b (rk op (p.2.1 b) (p.2.1 (b + 1))), p.2.2)
def wt (op : Nat) (t : List Bool) : Option (List Bool) :=
  if op = 0 then some (false :: t) else if op = 1 then some (true :: t)
  else match t with
  | true :: t => if op = 2 then some (true :: t) else if 3 ≤ op ∧ op ≤ 7 then some (false :: t) else none
  | false :: t => if op = 9 ∨ op = 21 then some (false :: t) else match t with
    | true :: t => if op = 8 then some (false :: t) else none
    | false :: t => if 10 ≤ op ∧ op ≤ 20 then some (false :: t) else none
    | [] => none
  | [] => none
def rsOk (f : Nat → Int64) : List Bool → Prop
  | [] => True
  | b :: t => (b = true → f t.length = -1 ∨ ∃ j : Nat, j < 60 ∧ f t.length = lN j) ∧ rsOk f t
abbrev mst3 (S : zS) (h : Nat) (p : Int32 × (Nat → Int64) × (Nat → Int32)) : zS := mst S (nI h) p.1 p.2.1 p.2.2
/-- what the rows of OBJECTS hold always -/
def objOk (S : zS) : Prop := (∀ j : Nat, j < 60 → za S 5 j = -1 ∨ ∃ i : Nat, i < 60 ∧ za S 5 j = nI i) ∧ ∀ j : Nat, j < 60 → ∃ n : Nat, n ≤ 8 ∧ za S 6 j = nI n
theorem lN_nm {j : Nat} (h : j < 2 ^ 31) : ¬ lN j = -1 := by
  intro q
  have a := lN_toInt h
  rw [q] at a
  have : (-1 : Int64).toInt = -1 := by decide
  omega
theorem lN_clamp {j : Nat} (h : j < 2 ^ 31) : (lN j).toNatClampNeg = j := by
  show (lN j).toInt.toNat = j
  rw [lN_toInt h]
  rfl
theorem c_X8_act (l : Launch) (E : zE) (r : Nat → Nat) (S : zS) (p : Int32 × (Nat → Int64) × (Nat → Int32)) (ro k op : Nat) (t t' : List Bool) (hk : k < 1440) (hro : ro < 60) (hc : za S 11 k = nI op) (hw : wt op t = some t') (hlen : t.length < 238) (hok : rsOk p.2.1 t) (ho : objOk S) :
    Ct l yX8_act cX8_act 9 none ({ frames := 2, cells := 0, slots := 0, locals := 60 } : Room) E (mw E r (mst3 S t.length p)) [.ref (r 0), .int (nI ro), .int (nI k)] (fun v_ w_ => v_ = none ∧ w_ = mw E r (mst3 S t'.length (rst S ro op (za S 12 k) (t'.length - 1) p))) := by
  obtain ⟨ab, f, hg⟩ := p
  dsimp only at hok
  by_cases h0 : op = 0
  · subst h0
    cases hw
    exact c_X8_act_0 l E r S t.length ab f hg ro k hlen hk hro hc
  by_cases h1 : op = 1
  · subst h1
    cases hw
    exact c_X8_act_1 l E r S t.length ab f hg ro k hlen hk hro hc
  cases t with
  | nil => simp [wt, h0, h1] at hw
  | cons b t =>
    have hl : t.length < 238 := by simp at hlen; omega
    cases b with
    | true =>
      have hv := hok.1 rfl
      by_cases h2 : op = 2
      · subst h2
        cases hw
        rcases hv with hv | ⟨j, hj, hv⟩
        · rw [show rst S ro 2 (za S 12 k) ((true :: t).length - 1) (ab, f, hg) = (1, vp_updL f t.length (-1), hg) by simp [rst, hv]]
          exact c_X8_act_2n l E r S t.length ab f hg ro k hl hk hro hc hv
        · have hn : ¬ f t.length = -1 := by rw [hv]; exact lN_nm (by omega)
          have hcl : (f t.length).toNatClampNeg = j := by rw [hv]; exact lN_clamp (by omega)
          rw [show rst S ro 2 (za S 12 k) ((true :: t).length - 1) (ab, f, hg) = (ab, vp_updL f t.length (effL S j), upd hg j 1) by simp [rst, hn, hcl]]
          rcases ho.1 j hj with hr | ⟨i, hi, hr⟩
          · rw [show effL S j = -1 by simp [effL, hr]]
            exact c_X8_act_2a l E r S t.length ab f hg ro k j hl hk hro hc hv hj hr
          · have hm : ¬ za S 5 j = -1 := by rw [hr]; exact nI_nm (by omega)
            have hc2 : (za S 5 j).toNatClampNeg = i := by rw [hr]; exact nI_clamp (by omega)
            by_cases ht : za S 2 i = 0
            · rw [show effL S j = -1 by simp only [effL, if_neg hm, hc2, if_pos ht]]
              exact c_X8_act_2b l E r S t.length ab f hg ro k j i hl hk hro hc hv hj hi hr ht
            · rw [show effL S j = lN i by simp only [effL, if_neg hm, hc2, if_neg ht]]
              exact c_X8_act_2c l E r S t.length ab f hg ro k j i hl hk hro hc hv hj hi hr ht
      · have h37 : 3 ≤ op ∧ op ≤ 7 := by
          rcases Classical.em (3 ≤ op ∧ op ≤ 7) with q | q
          · exact q
          · simp [wt, h0, h1, h2, q] at hw
        have ht' : t' = false :: t := by
          simp [wt, h0, h1, h2, h37] at hw
          exact hw.symm
        subst ht'
        rcases hv with hv | ⟨j, hj, hv⟩
        · rcases (show op = 3 ∨ op = 4 ∨ op = 5 ∨ op = 6 ∨ op = 7 by omega) with rfl | rfl | rfl | rfl | rfl
          · rw [show rst S ro 3 (za S 12 k) ((false :: t).length - 1) (ab, f, hg) = (1, vp_updL f t.length 0, hg) by simp [rst, hv]]
            exact c_X8_act_3n l E r S t.length ab f hg ro k hl hk hro hc hv
          · rw [show rst S ro 4 (za S 12 k) ((false :: t).length - 1) (ab, f, hg) = (1, vp_updL f t.length 0, hg) by simp [rst, hv]]
            exact c_X8_act_4n l E r S t.length ab f hg ro k hl hk hro hc hv
          · rw [show rst S ro 5 (za S 12 k) ((false :: t).length - 1) (ab, f, hg) = (1, vp_updL f t.length 0, hg) by simp [rst, hv]]
            exact c_X8_act_5n l E r S t.length ab f hg ro k hl hk hro hc hv
          · rw [show rst S ro 6 (za S 12 k) ((false :: t).length - 1) (ab, f, hg) = (1, vp_updL f t.length 0, hg) by simp [rst, hv]]
            exact c_X8_act_6n l E r S t.length ab f hg ro k hl hk hro hc hv
          · rw [show rst S ro 7 (za S 12 k) ((false :: t).length - 1) (ab, f, hg) = (1, vp_updL f t.length 0, hg) by simp [rst, hv]]
            exact c_X8_act_7n l E r S t.length ab f hg ro k hl hk hro hc hv
        · have hn : ¬ f t.length = -1 := by rw [hv]; exact lN_nm (by omega)
          have hcl : (f t.length).toNatClampNeg = j := by rw [hv]; exact lN_clamp (by omega)
          rcases (show op = 3 ∨ op = 4 ∨ op = 5 ∨ op = 6 ∨ op = 7 by omega) with rfl | rfl | rfl | rfl | rfl
          · rw [show rst S ro 3 (za S 12 k) ((false :: t).length - 1) (ab, f, hg) = (ab, vp_updL f t.length (zb S 4 (3 * j + 3 - 3)), upd hg j 1) by simp [rst, hn, hcl]]
            exact c_X8_act_3s l E r S t.length ab f hg ro k j hl hk hro hc hv hj
          · rw [show rst S ro 4 (za S 12 k) ((false :: t).length - 1) (ab, f, hg) = (ab, vp_updL f t.length (zb S 4 (3 * j + 4 - 3)), upd hg j 1) by simp [rst, hn, hcl]]
            exact c_X8_act_4s l E r S t.length ab f hg ro k j hl hk hro hc hv hj
          · rw [show rst S ro 5 (za S 12 k) ((false :: t).length - 1) (ab, f, hg) = (ab, vp_updL f t.length (zb S 4 (3 * j + 5 - 3)), upd hg j 1) by simp [rst, hn, hcl]]
            exact c_X8_act_5s l E r S t.length ab f hg ro k j hl hk hro hc hv hj
          · rw [show rst S ro 6 (za S 12 k) ((false :: t).length - 1) (ab, f, hg) = (ab, vp_updL f t.length (za S 6 j).toInt64, upd hg j 1) by simp [rst, hn, hcl]]
            exact c_X8_act_6s l E r S t.length ab f hg ro k j hl hk hro hc hv hj
          · rw [show rst S ro 7 (za S 12 k) ((false :: t).length - 1) (ab, f, hg) = (ab, vp_updL f t.length (lN j), upd hg j 1) by simp [rst, hn, hcl]]
            exact c_X8_act_7s l E r S t.length ab f hg ro k j hl hk hro hc hv hj
    | false =>
      by_cases h9 : op = 9
      · subst h9
        cases hw
        exact c_X8_act_9 l E r S t.length ab f hg ro k hl hk hro hc
      by_cases h21 : op = 21
      · subst h21
        cases hw
        exact c_X8_act_21 l E r S t.length ab f hg ro k hl hk hro hc
      cases t with
      | nil => simp [wt, h0, h1, h9, h21] at hw
      | cons b t =>
        have hl2 : t.length < 238 := by simp at hlen; omega
        cases b with
        | true =>
          have hv := hok.2.1 rfl
          have h8 : op = 8 := by
            rcases Classical.em (op = 8) with q | q
            · exact q
            · simp [wt, h0, h1, h9, h21, q] at hw
          subst h8
          cases hw
          rcases hv with hv | ⟨j, hj, hv⟩
          · rw [show rst S ro 8 (za S 12 k) ((false :: t).length - 1) (ab, f, hg) = (1, vp_updL f t.length 0, hg) by simp [rst, hv]]
            exact c_X8_act_8n l E r S t.length ab f hg ro k hl2 hk hro hc hv
          · have hn : ¬ f t.length = -1 := by rw [hv]; exact lN_nm (by omega)
            have hcl : (f t.length).toNatClampNeg = j := by rw [hv]; exact lN_clamp (by omega)
            obtain ⟨nn, hnn, hln⟩ := ho.2 j hj
            by_cases hx : f (t.length + 1) < 0
            · rw [show rst S ro 8 (za S 12 k) ((false :: t).length - 1) (ab, f, hg) = (1, vp_updL f t.length 0, upd hg j 1) by simp [rst, hn, hcl, hx]]
              exact c_X8_act_8x l E r S t.length ab f hg ro k j hl2 hk hro hc hv hj hx
            · by_cases hy : (za S 6 j).toInt64 ≤ f (t.length + 1)
              · rw [show rst S ro 8 (za S 12 k) ((false :: t).length - 1) (ab, f, hg) = (1, vp_updL f t.length 0, upd hg j 1) by simp [rst, hn, hcl, hy]]
                exact c_X8_act_8y l E r S t.length ab f hg ro k j hl2 hk hro hc hv hj hx hy
              · obtain ⟨q, hq, hqe⟩ := pk_lOf hx
                have hq8 : q < 8 := by
                  rw [hqe, hln, nI_l (by omega)] at hy
                  rcases Nat.lt_or_ge q 8 with z | z
                  · exact z
                  · exact absurd ((pk_lLE (by omega) hq).mpr (by omega)) hy
                have hc2 : (f (t.length + 1)).toNatClampNeg = q := by rw [hqe]; exact lN_clamp (by omega)
                rw [show rst S ro 8 (za S 12 k) ((false :: t).length - 1) (ab, f, hg) = (ab, vp_updL f t.length (zb S 7 (8 * j + q)), upd hg j 1) by simp [rst, hn, hcl, hx, hy, hc2]]
                exact c_X8_act_8s l E r S t.length ab f hg ro k j q hl2 hk hro hc hv hj hqe hq8 (by rw [← hqe]; exact hy)
        | false =>
          have hb : 10 ≤ op ∧ op ≤ 20 := by
            rcases Classical.em (10 ≤ op ∧ op ≤ 20) with q | q
            · exact q
            · simp [wt, h0, h1, h9, h21, q] at hw
          have ht' : t' = false :: t := by
            simp [wt, h0, h1, h9, h21, hb] at hw
            exact hw.symm
          subst ht'
          rw [show rst S ro op (za S 12 k) ((false :: t).length - 1) (ab, f, hg) = (rkA op (f (t.length + 1)) ab, vp_updL f t.length (rk op (f t.length) (f (t.length + 1))), hg) by
            simp only [rst, List.length_cons, Nat.add_sub_cancel]
            rw [if_neg h0, if_neg h1, if_neg (by omega), if_neg (by omega), if_neg (by omega), if_neg (by omega), if_neg h9, if_neg h21, if_neg (by omega)]]
          exact c_X8_act_b l E r S t.length ab f hg ro k op hl2 hk hro hc hb.1 hb.2

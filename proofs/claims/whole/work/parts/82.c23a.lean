/-! what Kept tells, with plain states -/
theorem k_shown (l : Launch) (E : zE) (r rp rg rs rw : Nat → Nat) (SK SG SP : zS) (D : Nat → zD) (G : List zNd) (lm : Nat) (hk : kS SK SG SP D G lm) :
    Ct l yX1_shownCount cX1_shownCount 1 (some .int) ({ frames := 1, cells := 0, slots := 0, locals := 30 } : Room) E (kpw E r (rp 0) (rg 0) (rs 0) (rw 0) SK ++ plw E rp SP) [.ref (r 0)] (fun v_ w_ => v_ = some (.int (nI (shwN lm (oD D).length))) ∧ w_ = kpw E r (rp 0) (rg 0) (rs 0) (rw 0) SK ++ plw E rp SP) := by
  obtain ⟨h1, h2, h3, h5, h6, h7⟩ := hk
  have h60 := oD_60 D
  have C := c_X1_shownCount l E r rp rg rs rw SK (zl SK 0) (zl SK 1) (zl SK 2) (zb SK 1) (za SK 2) (zb SK 3) (zb SK 4) (zb SK 5) (za SK 6) SP (oD D).length lm (by omega) (by omega) h7
  rw [← h1] at C
  exact C
theorem k_at_y (l : Launch) (E : zE) (r rp rg rs rw : Nat → Nat) (SK SG SP : zS) (D : Nat → zD) (G : List zNd) (lm k x : Nat) (hk : kS SK SG SP D G lm) (hx : (oD D)[k]? = some x) :
    Ct l yX1_objectAt cX1_objectAt 2 (some .int) ({ frames := 0, cells := 0, slots := 0, locals := 0 } : Room) E (kpw E r (rp 0) (rg 0) (rs 0) (rw 0) SK) [.ref (r 0), .int (nI k)] (fun v_ w_ => v_ = some (.int (nI x)) ∧ w_ = kpw E r (rp 0) (rg 0) (rs 0) (rw 0) SK) := by
  obtain ⟨h1, h2, h3, h5, h6, h7⟩ := hk
  have C := c_X1_objectAt_y l E r rp rg rs rw SK (zl SK 0) (zl SK 1) (zl SK 2) (zb SK 1) (za SK 2) (zb SK 3) (zb SK 4) (zb SK 5) (za SK 6) (oD D) k x h2.1 (oD_60 D) hx
  rw [← h1] at C
  exact C
theorem k_at_n (l : Launch) (E : zE) (r rp rg rs rw : Nat → Nat) (SK SG SP : zS) (D : Nat → zD) (G : List zNd) (lm : Nat) (k : Int32) (hk : kS SK SG SP D G lm) (hno : ¬ ∃ j : Nat, j < (oD D).length ∧ k = nI j) :
    Ct l yX1_objectAt cX1_objectAt 2 (some .int) ({ frames := 0, cells := 0, slots := 0, locals := 0 } : Room) E (kpw E r (rp 0) (rg 0) (rs 0) (rw 0) SK) [.ref (r 0), .int k] (fun v_ w_ => v_ = some (.int (-1)) ∧ w_ = kpw E r (rp 0) (rg 0) (rs 0) (rw 0) SK) := by
  obtain ⟨h1, h2, h3, h5, h6, h7⟩ := hk
  have C := c_X1_objectAt_n l E r rp rg rs rw SK (zl SK 0) (zl SK 1) (zl SK 2) (zb SK 1) (za SK 2) (zb SK 3) (zb SK 4) (zb SK 5) (za SK 6) (oD D) k h2.1 (oD_60 D) hno
  rw [← h1] at C
  exact C
theorem isQ_n {nq : Nat} {q : Int32} (hn : nq < 2 ^ 31) (h : ¬ ∃ j : Nat, j < nq ∧ q = nI j) : isQ nq q = false := by
  cases e : isQ nq q with
  | false => rfl
  | true => exact absurd (isQ_i hn e) h

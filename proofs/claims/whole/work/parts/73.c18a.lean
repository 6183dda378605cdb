/-! a row worked out anew -/
theorem fD_less {D : Nat → zD} {o : Nat} (h : D o = none) : ∀ n : Nat, o < n → (fD D n).length < n
  | 0, hn => absurd hn (by omega)
  | n + 1, hn => by
    simp only [fD]
    by_cases e : o = n
    · subst e
      rw [h]
      show (fD D o).length < o + 1
      have := fD_len D o
      omega
    · have := fD_less h n (by omega)
      cases D n with
      | none => show (fD D n).length < n + 1; omega
      | some d => show (insS (n, d) (fD D n)).length < n + 1; rw [insS_len]; omega
theorem updD_at (D : Nat → zD) (o : Nat) (d : zD) : updD D o d o = d := by unfold updD; rw [if_pos rfl]
section RN
variable {S : zS} {kd f1 f2 f3 f4 : Int32} {G : List zNd} {o : Nat}
theorem rowD_n (h : ¬ (¬ za S 1 o = 0 ∧ za S 2 o = kd)) : rowD S kd f1 f2 f3 f4 G o = (none, 0) := by unfold rowD; rw [if_neg h]
theorem rowD_x (h : ¬ za S 1 o = 0 ∧ za S 2 o = kd) (h2 : ¬ ((evL S o G ([], 0)).1.any (·.2) = false ∧ ¬ vO (evL S o G ([], 0)).1 f1 1 = 0)) : rowD S kd f1 f2 f3 f4 G o = (none, (evL S o G ([], 0)).2) := by unfold rowD; rw [if_pos h, if_neg h2]
theorem rowD_y (h : ¬ za S 1 o = 0 ∧ za S 2 o = kd) (h2 : (evL S o G ([], 0)).1.any (·.2) = false ∧ ¬ vO (evL S o G ([], 0)).1 f1 1 = 0) : rowD S kd f1 f2 f3 f4 G o = (some (vO (evL S o G ([], 0)).1 f2 0, vO (evL S o G ([], 0)).1 f3 0, vO (evL S o G ([], 0)).1 f4 1), (evL S o G ([], 0)).2) := by unfold rowD; rw [if_pos h, if_pos h2]
end RN
theorem rn_in {D : Nat → zD} {inn od1 od' : Nat → Int32} {ky gv am : Nat → Int64} {o k : Nat} {K Gv A : Int64} (ho : o < 60) (hk : kI (updD D o none) inn ky gv am od1) (h1 : hoO ((oD (updD D o none)).take k ++ o :: (oD (updD D o none)).drop k) od') (h2 : k ≤ (oD (updD D o none)).length ∧ (∀ (j y : Nat), (oD (updD D o none))[j]? = some y → k ≤ j → bfB (vp_updL ky o K) o y = true) ∧ (∀ (j y : Nat), (oD (updD D o none))[j]? = some y → j + 1 = k → bfB (vp_updL ky o K) o y = false)) :
    (oD (updD D o none)).length + 1 = (oD (updD D o (some (K, Gv, A)))).length ∧ addG (vp_updL gv o Gv o) (vp_updL am o A o) (gL (fD (updD D o none) 60)) = gL (fD (updD D o (some (K, Gv, A))) 60) ∧ kI (updD D o (some (K, Gv, A))) (upd inn o 1) (vp_updL ky o K) (vp_updL gv o Gv) (vp_updL am o A) od' := by
  have hD : ∀ (i : Nat) (k g a : Int64), i < 60 → updD D o none i = some (k, g, a) → vp_updL ky o K i = k ∧ vp_updL gv o Gv i = g ∧ vp_updL am o A i = a := fun i k g a hi hd => by
    have e : ¬ i = o := fun e => by rw [e, updD_at] at hd; cases hd
    rw [pk_uLn e, pk_uLn e, pk_uLn e]
    exact hk.2.2 i k g a hi hd
  obtain ⟨e1, e2⟩ := fD_new (d := (K, Gv, A)) ho (updD_at D o none) hD pk_uLs h2.1 h2.2.1 h2.2.2
  rw [updD_2] at e1 e2
  refine ⟨?_, ?_, ?_⟩
  · rw [e2]; simp; omega
  · rw [pk_uLs, pk_uLs]
    have := gI_add (D := updD D o none) (d := (K, Gv, A)) (by rw [updD_2]; exact e1)
    rw [updD_2] at this
    exact this.symm
  · have := kI_in (D := updD D o none) (o := o) (k := K) (g := Gv) (a := A) hk.2.1 hD ⟨pk_uLs, pk_uLs, pk_uLs⟩ (od' := od') (by rw [updD_2, e2]; exact h1)
    rw [updD_2] at this
    exact this
def plOk (S : zS) (G : List zNd) : Prop := zi S 0 = nI G.length ∧ G.length ≤ 80 ∧ hoN G (za S 1) (za S 2) (za S 3) ∧ (∀ i x, G[i]? = some x → nOk i x) ∧ fOk G.length (zi S 3) ∧ fOk G.length (zi S 4) ∧ fOk G.length (zi S 5) ∧ fOk G.length (zi S 6) ∧ ∃ lm : Nat, lm < 100 ∧ zi S 2 = nI lm

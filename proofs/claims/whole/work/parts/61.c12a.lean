/-! the Reader closed; a whole QUERY -/
theorem c_all (l : Launch) (E : zE) (r rt rp : Nat → Nat) (S ST SP : zS) (tp : Nat) (sx : Nat → Nat) (ht : tpC ST tp sx) (n : Nat) :
    cC l E r rt rp S ST SP tp sx yX3_readOr cX3_readOr 4 (fun p op R => ps sx n 0 p op = some R) n ∧ cC l E r rt rp S ST SP tp sx yX3_readAnd cX3_readAnd 4 (fun p op R => ps sx n 2 p op = some R) n ∧ cC l E r rt rp S ST SP tp sx yX3_readTest cX3_readTest 4 (fun p op R => ps sx n 4 p op = some R) n ∧ cC l E r rt rp S ST SP tp sx yX3_readX cX3_readX 5 (fun p op R => ps sx n 5 p op = some R) n ∧ cC l E r rt rp S ST SP tp sx yX3_readTerm cX3_readTerm 5 (fun p op R => ps sx n 7 p op = some R) n ∧ cC l E r rt rp S ST SP tp sx yX3_readFactor cX3_readFactor 4 (fun p op R => ps sx n 9 p op = some R) n ∧ cC l E r rt rp S ST SP tp sx yX3_readPath cX3_readPath 4 (fun p op R => pcat [(1, 0)] (ps sx n 10 p op) = some R) n := by
  induction n using Nat.strongRecOn with
  | _ n ih =>
    refine ⟨?_, ?_, ?_, ?_, ?_, ?_, ?_⟩
    · exact fun p op G o1 l1 r1 R hH hp hN hop hho => c_X3_readOr_p l E r rt rp S ST SP tp sx n p op G o1 l1 r1 R ht (fun m hm => (ih m hm).2.1) hH hp hN hop hho
    · exact fun p op G o1 l1 r1 R hH hp hN hop hho => c_X3_readAnd_p l E r rt rp S ST SP tp sx n p op G o1 l1 r1 R ht (fun m hm => (ih m hm).2.2.1) hH hp hN hop hho
    · exact fun p op G o1 l1 r1 R hH hp hN hop hho => c_X3_readTest_p l E r rt rp S ST SP tp sx n p op G o1 l1 r1 R ht (fun m hm => (ih m hm).2.2.1) (fun m hm => (ih m hm).1) (fun m hm => (ih m hm).2.2.2.1) hH hp hN hop hho
    · exact fun p op G o1 l1 r1 R hH hp hN hop hho => c_X3_readX_p l E r rt rp S ST SP tp sx n p op G o1 l1 r1 R ht (fun m hm => (ih m hm).2.2.2.2.1) hH hp hN hop hho
    · exact fun p op G o1 l1 r1 R hH hp hN hop hho => c_X3_readTerm_p l E r rt rp S ST SP tp sx n p op G o1 l1 r1 R ht (fun m hm => (ih m hm).2.2.2.2.2.1) hH hp hN hop hho
    · exact fun p op G o1 l1 r1 R hH hp hN hop hho => c_X3_readFactor_p l E r rt rp S ST SP tp sx n p op G o1 l1 r1 R ht (fun m hm => (ih m hm).2.2.2.2.2.1) (fun m hm => (ih m hm).2.2.2.1) (fun m hm => (ih m hm).2.2.2.2.2.2) hH hp hN hop hho
    · exact fun p op G o1 l1 r1 R hH hp hN hop hho => c_X3_readPath_p l E r rt rp S ST SP tp sx n p op G o1 l1 r1 R ht (fun m hm => (ih m hm).2.2.2.1) hH hp hN hop hho
def zq6 (S : zS) (kd lm f1 f2 f3 f4 : Int32) : zS := (fun i => if i = 1 then kd else if i = 2 then lm else if i = 3 then f1 else if i = 4 then f2 else if i = 5 then f3 else if i = 6 then f4 else S.1 i, S.2)
def mpq (S : zS) (n : Int32) (o l r : Nat → Int32) (kd lm f1 f2 f3 f4 : Int32) : zS := mpv (zq6 S kd lm f1 f2 f3 f4) n o l r
/-- a formula that is there, or none -/
def PF (G : List zNd) (c : List (Nat × Nat)) (G' : List zNd) (f : Int32) : Prop := (c = [] ∧ G' = G ∧ f = -1) ∨ ∃ j : Nat, f = nI j ∧ j < G'.length ∧ BL G c G' j
def oFin (sx : Nat → Nat) (G : List zNd) (p : Nat) (R : zRs) (b : Bool) (G' : List zNd) (f : Int32) : Prop := G'.length + p ≤ G.length + R.2.1 ∧ (R.1 = true → b = true ∧ PF G R.2.2 G' f) ∧ (R.1 = false → b = false ∨ (b = true ∧ isD (sx R.2.1) = true))
theorem optP_t {tp : Nat} {sx : Nat → Nat} (h0 : ∀ k : Nat, tp ≤ k → sx k = 0) {stop md p : Nat} (hmd : md ≤ 10) (hp : p ≤ tp) (ht : tp ≤ 80) : ∃ b q c, optP sx 1000 stop md p = some (b, q, c) ∧ p ≤ q ∧ q ≤ tp := by
  unfold optP
  by_cases h : sx p = stop
  · rw [if_pos h]; exact ⟨true, p, [], rfl, Nat.le_refl _, hp⟩
  · rw [if_neg h]
    obtain ⟨⟨b, q, c⟩, e⟩ := ps_t h0 1000 md p 0 hmd hp (by unfold rnk; (repeat' split) <;> omega)
    have := ps_b h0 _ _ _ _ _ hmd e
    exact ⟨b, q, c, e, this.1, this.2.1 hp⟩
def cdone (sx : Nat → Nat) (R : zQr) (G : List zNd) (kd lm f1 f2 f3 f4 : Int32) : Prop := ∃ c0 c1 c2 c3 : List (Nat × Nat), ∃ G0 G1 G2 : List zNd, R.2.2.2 = [c0, c1, c2, c3] ∧ PF [] c0 G0 f1 ∧ PF G0 c1 G1 f2 ∧ PF G1 c2 G2 f3 ∧ PF G2 c3 G f4 ∧ G.length ≤ 80 ∧ kd = nI (sx 0 - 48) ∧ lm = nI R.2.2.1

section ZCALL2
variable {X : zT} {l : Launch} {rm : Room} {E : zE} {cc : ByteArray} {nl : Nat} {own : String} {k n : Nat} {ws : va_W} {lv : List (Nat × Value)} {pc : Nat} {st : List Value}
variable {y : MethodName} {b : ByteArray} {nl' : Nat} {rt : Option FieldType} {rm' : Room} {As rest : List Value} {post : Option Value → va_W → Prop} {index : Nat}
/-- a static callee without a world -/
theorem z_callS0 (F : zF X l rm E cc nl own) (hM : Ct l y b nl' rt rm' E [] As post) (na : Nat)
    (hw : Cond.code y b nl' rt ∈ lw_tb ∧ Cond.methodLink own index y ∈ lw_tb ∧ Cond.static y ∈ lw_tb ∧ Cond.initialized y.cls ∈ lw_tb)
    (hy : y.cls ≠ "java/lang/invoke/MethodHandle" ∧ y.cls ≠ "java/lang/invoke/VarHandle" ∧ (parseMethodDescriptor y.desc).map (fun d => d.parameters.length) = some na) (hna : As.length = na)
    (hrm : rm'.frames + 1 ≤ rm.frames ∧ 8 + (nl' + 11) + rm'.locals ≤ rm.locals) (hcs : k + rm'.cells ≤ rm.cells ∧ n + rm'.slots ≤ rm.slots)
    (hst : st = As.reverse ++ rest) (hcat : (rest.map fun v => v.category).sum ≤ 8) (hd : decode cc pc = .ok (.invokestatic index, 3))
    (K : ∀ (v : Option Value) (w1 : va_W), post v w1 → Z X (k + rm'.cells) (n + rm'.slots) ws lv (pc + 3) (v.toList ++ rest)) : Z X k n ws lv pc st := by
  obtain ⟨p, l, e, R, s, m, args, below, meth, c, E, A, nL, Q⟩ := X
  obtain ⟨rfl, rfl, rfl, rfl, hx, hb, hml, hown, hts, hK, hA, hlk, hnw⟩ := F
  intro H locs ls hP hD hS hl
  subst hst
  have hr := va_runS (p := p) (e := e) (below := below) (meth := meth) (locs := locs) (H := H) (cells := k) (slots := n) (As := As) (rest := rest) (g := F0 m pc ls (As.reverse ++ rest)) ⟨hx, hb, hml, hown, hts⟩ (hM H.size) ⟨callB_of (Ts := lw_tb) na hts (z_goodIn hw.1) rfl rfl rfl (hts _ hw.2.2.2) (hts _ hw.2.1) hy hrm, hts _ hw.2.2.1⟩ ⟨z_blind (l := l), fun U hU hW => ⟨rfl, by rw [hU], fun k q h => by simp at h, va_K.moved hW.alike hK, ⟨fun i j p q h => by simp at h, fun k q h => by simp at h⟩, hnw.moved hW⟩⟩ rfl hna hl.1 rfl (lv_room hcat) hd hcs
  intro T hT X
  obtain ⟨v, st₀, t, T', L, h0, X', hL, e1, e2, ⟨⟨v', w1, hv, hp, hP1, hD1⟩, hz, hk⟩, go⟩ := hr T hT X
  cases hv
  rw [h0] at hz hk
  have hA0 : ∀ q : Nat, va_A [] H.size q → H.size ≤ q := fun q h => by
    rcases h with ⟨k, e, h⟩ | h
    · simp at h
    · exact h
  have hk' : ∀ q : Nat, q < H.size → T'.heap[q]? = H[q]? := fun q h1 => by
    rw [e1]
    exact hk q h1 (fun z => absurd (hA0 q z) (by omega))
  obtain ⟨t2, a1, b1⟩ := K v w1 hp T'.heap (locs ++ L) ls (hP.kept (fun i q hq => hk' q.1 (hP i q hq).lt)) hD
    ⟨Nat.le_trans hS.1 (by rw [e1]; exact hz), fun q h1 h2 => by
      rw [hk' q (Nat.lt_of_lt_of_le h1 hS.1)]
      exact hS.2.1 q h1 h2, fun q hq => by
      rcases List.mem_append.mp hq with h | h
      · exact hS.2.2 q h
      · exact hA _ (Nat.le_trans hS.1 (hA0 _ (hL q h)))⟩ hl T' rfl X'
  exact ⟨t2, go t2 a1, b1⟩
/-- an instance callee whose world is the caller's -/
theorem z_callVW (F : zF X l rm E cc nl own) {a ci q0 : Nat} {r : vw_C} {fs : List Value} (hM : Ct l y b nl' rt rm' E ws (.ref a :: As) post) (na : Nat)
    (hw : Cond.code y b nl' rt ∈ lw_tb ∧ Cond.methodLink own index y ∈ lw_tb ∧ Cond.instanceMethod y ∈ lw_tb ∧ Cond.selects y.cls y y ∈ lw_tb ∧ Cond.initialized y.cls ∈ lw_tb)
    (hy : y.cls ≠ "java/lang/invoke/MethodHandle" ∧ y.cls ≠ "java/lang/invoke/VarHandle" ∧ (parseMethodDescriptor y.desc).map (fun d => d.parameters.length) = some na) (hna : As.length = na)
    (hrm : rm'.frames + 1 ≤ rm.frames ∧ 8 + (nl' + 11) + rm'.locals ≤ rm.locals) (hcs : k + rm'.cells ≤ rm.cells ∧ n + rm'.slots ≤ rm.slots)
    (he : ws[q0]? = some (a, .inr (ci, fs))) (hc : vwCl[ci]? = some r) (hr : r.1 = y.cls)
    (hst : st = As.reverse ++ .ref a :: rest) (hcat : (rest.map fun v => v.category).sum ≤ 8) (hd : decode cc pc = .ok (.invokevirtual index, 3))
    (K : ∀ (v : Option Value) (w1 : va_W), post v w1 → Z X (k + rm'.cells) (n + rm'.slots) w1 lv (pc + 3) (v.toList ++ rest)) : Z X k n ws lv pc st := by
  obtain ⟨p, l, e, R, s, m, args, below, meth, c, E, A, nL, Q⟩ := X
  obtain ⟨rfl, rfl, rfl, rfl, hx, hb, hml, hown, hts, hK, hA, hlk, hnw⟩ := F
  intro H locs ls hP hD hS hl
  subst hst
  have hru := va_runV (p := p) (e := e) (below := below) (meth := meth) (locs := locs) (H := H) (cells := k) (slots := n) (C := y.cls) (As := As) (rest := rest) (g := F0 m pc ls (As.reverse ++ .ref a :: rest)) ⟨hx, hb, hml, hown, hts⟩ (hM H.size) ⟨callB_of (Ts := lw_tb) na hts (z_goodIn hw.1) rfl rfl rfl (hts _ hw.2.2.2.2) (hts _ hw.2.1) hy hrm, hts _ hw.2.2.1, hts _ hw.2.2.2.1⟩ ⟨z_blind (l := l), by rw [← hr]; exact va_recv hK hP hc he, fun U hU hW => ⟨rfl, by rw [hU], by rw [hU]; exact hP, va_K.moved hW.alike hK, hD.weaken (fun _ _ _ _ => trivial), hnw.moved hW⟩⟩ rfl hna hl.1 rfl (lv_room hcat) hd hcs
  intro T hT X
  obtain ⟨v, st₀, t, T', L, h0, X', hL, e1, e2, ⟨⟨v', w1, hv, hp, hP1, hD1⟩, hz, hk⟩, go⟩ := hru T hT X
  cases hv
  rw [h0] at hz hk
  have hF : ∀ q : Nat, va_A ws H.size q → A q := fun q h => by
    rcases h with ⟨i, e, h⟩ | h
    · exact hD.2 i (q, e) h
    · exact hA q (Nat.le_trans hS.1 h)
  obtain ⟨t2, a1, b1⟩ := K v w1 hp T'.heap (locs ++ L) ls (by rw [e1]; exact hP1) (hD1.weaken (fun i q _ h => hF q.1 h))
    ⟨Nat.le_trans hS.1 (by rw [e1]; exact hz), fun q h1 h2 => by
      rw [e1, hk q (Nat.lt_of_lt_of_le h1 hS.1) (fun z => h2 (hF q z))]
      exact hS.2.1 q h1 h2, fun q hq => by
      rcases List.mem_append.mp hq with h | h
      · exact hS.2.2 q h
      · exact hF _ (hL q h)⟩ hl T' rfl X'
  exact ⟨t2, go t2 a1, b1⟩
end ZCALL2

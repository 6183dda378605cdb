/-! the constructor of LiveQueries -/
section ZQ
variable {X : zT} {l : Launch} {rm : Room} {E : zE} {cc : ByteArray} {nl : Nat} {own : String} {k n : Nat} {ws : va_W} {lv : List (Nat × Value)} {pc : Nat} {st : List Value}
theorem z_newq (F : zF X l rm E cc nl own) {C : String} {index : Nat} (hw : Cond.classLink own index C ∈ lw_tb) (hao : Cond.arrayOver (.object C) ∈ lw_tbl ∧ nestB (.arrayOver (.object C)) = true) (t : Nat) {cT : ClassId} (ht : (zty E.2)[t]? = some (cT, .object C)) {nn : Int32} {N : Nat} (hn : ¬ nn < 0) (hN : nn.toNatClampNeg = N) (hbytes : N * 4 ≤ 536870912) (hk : k + 1 ≤ rm.cells) (hs : n + N ≤ rm.slots) (hd : decode cc pc = .ok (.anewarray index, 3))
    (K : ∀ q : Nat, Z X (k + 1) (n + N) (ws ++ [(q, .inl (cT, N, .inr (.inr (.inr (.inr (fun _ => none))))))]) lv (pc + 3) (.ref q :: st)) : Z X k n ws lv pc (.int nn :: st) := by
  obtain ⟨p, l, e, R, s, m, args, below, meth, c, E, A, nL, Q⟩ := X
  obtain ⟨rfl, rfl, rfl, rfl, hx, hb, hml, hown, hts, hK, hA, hlk, hnw⟩ := F
  intro H locs ls hP hD hS hl
  refine va_newq hx hb hown (hts _ hw) (va_AO.of (hnw _ hao.1 hao.2)) hK hP hD hS hA hn hN hbytes hk hs hd (fun q cA H1 hK1 hP1 hD1 hS1 => ?_)
  have h1 := (hK1.2 (zty E.2).length (cA, .object C) (by simp)).2
  have h2 := (hK.2 t _ ht).2
  have e1 : cA = cT := ra_uniq h1 h2
  subst e1
  exact K q H1 locs ls hP1 hD1 hS1 hl
theorem z_astq (F : zF X l rm E cc nl own) (q t qk ci : Nat) {a : Nat} {cA : ClassId} {r : vw_C} {sz v : Nat} {vs : List Value} {f : Nat → Option Nat} (ha : ws[q]? = some (a, .inl (cA, sz, .inr (.inr (.inr (.inr f)))))) (ht : (zty E.2)[t]? = some (cA, .object r.1)) (hv : ws[qk]? = some (v, .inr (ci, vs))) (hc : vwCl[ci]? = some r) {i : Int32} (j : Nat) (hi : i = nI j) (hj : j < sz) (hs : sz < 2 ^ 31) (hd : decode cc pc = .ok (.aastore, 1)) {ws' : va_W} (hws : ws.set q (a, .inl (cA, sz, .inr (.inr (.inr (.inr (va_up f j (some v))))))) = ws') (K : Z X k n ws' lv (pc + 1) st) : Z X k n ws lv pc (.ref v :: .int i :: .ref a :: st) := by
  subst hi
  obtain ⟨p, l, e, R, s, m, args, below, meth, c, E, A, nL, Q⟩ := X
  obtain ⟨rfl, rfl, rfl, rfl, hx, hb, hml, hown, hts, hK, hA, hlk, hnw⟩ := F
  intro H locs ls hP hD hS hl
  subst hws
  refine va_astq hx hb hK hP hD hS q t qk ci ha ht hv hc (vp_in_nI hj hs) hd (fun H1 locs1 hP1 hD1 hS1 => ?_)
  rw [nI_clamp (by omega)] at hP1 hD1
  exact K H1 locs1 ls hP1 hD1 hS1 hl
variable {y : MethodName} {b : ByteArray} {nl' : Nat} {rm' : Room} {wc wr : va_W} {As rest : List Value} {post : Option Value → va_W → Prop} {index : Nat}
theorem z_callIF (F : zF X l rm E cc nl own) {a : Nat} (hM : Ct l y b nl' none rm' E wc (.ref a :: As) post) (na : Nat)
    (hw : Cond.code y b nl' none ∈ lw_tb ∧ Cond.methodLink own index y ∈ lw_tb ∧ Cond.instanceMethod y ∈ lw_tb ∧ Cond.initialized y.cls ∈ lw_tb) (hy1 : y.name = "<init>")
    (hy : y.cls ≠ "java/lang/invoke/MethodHandle" ∧ y.cls ≠ "java/lang/invoke/VarHandle" ∧ (parseMethodDescriptor y.desc).map (fun d => d.parameters.length) = some na) (hna : As.length = na)
    (hrm : rm'.frames + 1 ≤ rm.frames ∧ 8 + (nl' + 11) + rm'.locals ≤ rm.locals) (hcs : k + rm'.cells ≤ rm.cells ∧ n + rm'.slots ≤ rm.slots)
    (hst : st = As.reverse ++ .ref a :: rest) (hcat : (rest.map fun v => v.category).sum ≤ 8) (hd : decode cc pc = .ok (.invokespecial index, 3))
    (K : ∀ (v : Option Value) (w1 : va_W), post v w1 → Z X (k + rm'.cells) (n + rm'.slots) (w1 ++ wr) lv (pc + 3) (v.toList ++ rest)) : Z X k n (wc ++ wr) lv pc st := by
  refine z_callI (wr := wr) F hM na (List.range wc.length) ((List.range wr.length).map (· + wc.length)) (rg_C wc wr) (rg_R wc wr) ⟨nd_of List.nodup_range, nd_of ?_, ?_⟩ hw hy1 hy hna hrm hcs hst hcat hd (fun v w1 hp => z_perm List.perm_append_comm (K v w1 hp))
  · have hx : ((List.range wr.length).map (· + wc.length)).Pairwise (· ≠ ·) := List.pairwise_map.mpr (List.nodup_range.imp (fun h e => h (by omega)))
    exact hx
  · refine List.all_eq_true.mpr (fun i hi => ?_)
    obtain ⟨j, -, rfl⟩ := List.mem_map.mp hi
    simp
/-- of a row of references only the places that it has count -/
theorem z_qa {A B : va_W} {a sz : Nat} {cA : ClassId} {f f' : Nat → Option Nat} (h : ∀ i : Nat, i < sz → f i = f' i) (K : Z X k n (A ++ [(a, .inl (cA, sz, .inr (.inr (.inr (.inr f')))))] ++ B) lv pc st) : Z X k n (A ++ [(a, .inl (cA, sz, .inr (.inr (.inr (.inr f)))))] ++ B) lv pc st := by
  have hc : vp_cell cA (sz, .inr (.inr (.inr (.inr f)))) = vp_cell cA (sz, .inr (.inr (.inr (.inr f')))) := by
    show arrV cA sz (fun j => va_rf (f j)) = arrV cA sz (fun j => va_rf (f' j))
    unfold arrV
    have : (fun j : Fin sz => va_rf (f j.val)) = (fun j : Fin sz => va_rf (f' j.val)) := funext fun j => by rw [h j.val j.isLt]
    rw [this]
  obtain ⟨p, l, e, R, s, m, args, below, meth, c, E, AA, nL, Q⟩ := X
  intro H locs ls hP hD hS hl
  refine K H locs ls ?_ ?_ hS hl
  · rw [va_P_mem] at hP ⊢
    intro q hq
    rcases List.mem_append.mp hq with hq | hq
    · rcases List.mem_append.mp hq with hq | hq
      · exact hP q (List.mem_append_left _ (List.mem_append_left _ hq))
      · have e : q = (a, .inl (cA, sz, .inr (.inr (.inr (.inr f'))))) := by simpa using hq
        subst e
        have := hP (a, .inl (cA, sz, .inr (.inr (.inr (.inr f))))) (List.mem_append_left _ (List.mem_append_right _ List.mem_cons_self))
        show H[a]? = some (vp_cell cA (sz, .inr (.inr (.inr (.inr f')))))
        rw [← hc]; exact this
    · exact hP q (List.mem_append_right _ hq)
  · rw [va_D_mem] at hD ⊢
    refine ⟨?_, fun q hq => ?_⟩
    · have e1 : (A ++ [(a, (.inl (cA, sz, .inr (.inr (.inr (.inr f')))) : va_E))] ++ B).map (·.1) = (A ++ [(a, (.inl (cA, sz, .inr (.inr (.inr (.inr f)))) : va_E))] ++ B).map (·.1) := by simp
      rw [e1]; exact hD.1
    · rcases List.mem_append.mp hq with hq | hq
      · rcases List.mem_append.mp hq with hq | hq
        · exact hD.2 q (List.mem_append_left _ (List.mem_append_left _ hq))
        · have e : q = (a, .inl (cA, sz, .inr (.inr (.inr (.inr f'))))) := by simpa using hq
          subst e
          exact hD.2 (a, .inl (cA, sz, .inr (.inr (.inr (.inr f))))) (List.mem_append_left _ (List.mem_append_right _ List.mem_cons_self))
      · exact hD.2 q (List.mem_append_right _ hq)
end ZQ
abbrev pI0 : zS := (zI (zI (zI (zI zS0 3 (-1)) 4 (-1)) 5 (-1)) 6 (-1))
def kN (E : zE) (rk rp rg : Nat → Nat → Nat) (rs rw : Nat → Nat) (i : Nat) : va_W := (List.range i).flatMap (kq E rk rp rg rs rw (fun _ => zS0) (fun _ => zS0) (fun _ => pI0))
def fN (rk : Nat → Nat → Nat) (i : Nat) : Nat → Option Nat := fun j => if j < i then some (rk j 0) else none
def upR (f : Nat → Nat → Nat) (i : Nat) (r : Nat → Nat) : Nat → Nat → Nat := fun j => if j = i then r else f j
theorem fN_0 (rk : Nat → Nat → Nat) : fN rk 0 = fun _ => none := by funext j; simp [fN]
theorem fN_s (rk : Nat → Nat → Nat) (i : Nat) (r : Nat → Nat) : va_up (fN rk i) i (some (r 0)) = fN (upR rk i r) (i + 1) := by
  funext j
  unfold va_up fN upR
  by_cases e : j = i
  · rw [if_pos e, if_pos (by omega), if_pos e]
  · rw [if_neg e, if_neg e]
    by_cases q : j < i
    · rw [if_pos q, if_pos (by omega)]
    · rw [if_neg q, if_neg (by omega)]
theorem kN_s (E : zE) (rk rp rg : Nat → Nat → Nat) (rs rw : Nat → Nat) (i : Nat) (r rp' rg' : Nat → Nat) : (kpw E r (rp' 0) (rg' 0) (rs 0) (rw 0) zS0 ++ plw E rp' pI0 ++ grw E rg' zS0 ++ kN E rk rp rg rs rw i).Perm (kN E (upR rk i r) (upR rp i rp') (upR rg i rg') rs rw (i + 1)) := by
  unfold kN
  rw [List.range_succ, List.flatMap_append]
  have e1 : (List.range i).flatMap (kq E rk rp rg rs rw (fun _ => zS0) (fun _ => zS0) (fun _ => pI0)) = (List.range i).flatMap (kq E (upR rk i r) (upR rp i rp') (upR rg i rg') rs rw (fun _ => zS0) (fun _ => zS0) (fun _ => pI0)) := by
    refine fm_congr fun j hj => ?_
    have : ¬ j = i := by have := List.mem_range.mp hj; omega
    show _ = kpw E (upR rk i r j) ((upR rp i rp' j) 0) ((upR rg i rg' j) 0) (rs 0) (rw 0) zS0 ++ grw E (upR rg i rg' j) zS0 ++ plw E (upR rp i rp' j) pI0
    unfold upR
    rw [if_neg this, if_neg this, if_neg this]
  have e2 : [i].flatMap (kq E (upR rk i r) (upR rp i rp') (upR rg i rg') rs rw (fun _ => zS0) (fun _ => zS0) (fun _ => pI0)) = kpw E r (rp' 0) (rg' 0) (rs 0) (rw 0) zS0 ++ grw E rg' zS0 ++ plw E rp' pI0 := by
    rw [List.flatMap_cons, List.flatMap_nil, List.append_nil]
    show kpw E (upR rk i r i) ((upR rp i rp' i) 0) ((upR rg i rg' i) 0) (rs 0) (rw 0) zS0 ++ grw E (upR rg i rg' i) zS0 ++ plw E (upR rp i rp' i) pI0 = _
    unfold upR
    rw [if_pos rfl, if_pos rfl, if_pos rfl]
  rw [e1, e2]
  refine List.perm_append_comm.trans (List.Perm.append_left _ ?_)
  rw [List.append_assoc, List.append_assoc]
  exact List.Perm.append_left _ List.perm_append_comm
theorem kN_6 (E : zE) (rk rp rg : Nat → Nat → Nat) (rs rw : Nat → Nat) : kN E rk rp rg rs rw 6 = k6 E rk rp rg rs rw (fun _ => zS0) (fun _ => zS0) (fun _ => pI0) := rfl

def lqw (E : zE) (r : Nat → Nat) (x_store : Nat) (x_tape : Nat) (x_reader : Nat) (x_queries : Nat) (S : zS) : va_W := [(r 0, .inr (7, [.ref x_store, .ref x_tape, .ref x_reader, .ref x_queries, .int (zi S 0)]))]
def qaw (E : zE) (r : Nat → Nat) (f : Nat → Option Nat) (S : zS) : va_W := [(r 0, .inl (E.2 4, 6, .inr (.inr (.inr (.inr f)))))]
/-! LiveQueries: six of Kept, one Store -/
def updS (f : Nat → zS) (q : Nat) (a : zS) : Nat → zS := fun i => if i = q then a else f i
def flP (SS : zS) (m ch : Nat) (SK SP : zS) (D : Nat → zD) (G : List zNd) (lm : Nat) (SK' SG' : zS) : Prop := kS SK' SG' SP (fwD (chP (zb SK 1) ch) D (rowR SS SP G) m) G lm ∧ zb SK' 1 = fwH (chP (zb SK 1) ch) (zb SK 1) (rowR SS SP G) m ∧ (zl SK' 0 = shM (fwD (chP (zb SK 1) ch) D (rowR SS SP G) m) lm ∧ zl SK' 1 = zl SK 0 &&& (shM (fwD (chP (zb SK 1) ch) D (rowR SS SP G) m) lm ^^^ (-1)) ∧ zl SK' 2 = shM (fwD (chP (zb SK 1) ch) D (rowR SS SP G) m) lm &&& (zl SK 0 ^^^ (-1)))
theorem fl_st {P : Nat → zS → zS → Prop} {q : Nat} {SK SG : Nat → zS} {a b : zS} (hA : ∀ i : Nat, i < q → P i (SK i) (SG i)) (h : P q a b) : ∀ i : Nat, i < q + 1 → P i (updS SK q a i) (updS SG q b i) := fun i hi => by
  unfold updS
  by_cases e : i = q
  · subst e; rw [if_pos rfl, if_pos rfl]; exact h
  · rw [if_neg e, if_neg e]; exact hA i (by omega)
theorem fl_bk {q : Nat} {SK SG SK0 SG0 : Nat → zS} {a b : zS} (hB : ∀ i : Nat, q ≤ i → SK i = SK0 i ∧ SG i = SG0 i) : ∀ i : Nat, q + 1 ≤ i → updS SK q a i = SK0 i ∧ updS SG q b i = SG0 i := fun i hi => by
  unfold updS
  rw [if_neg (by omega), if_neg (by omega)]; exact hB i (by omega)
def ctS (S : zS) : Nat := ctB (uN (zl S 1)).testBit 64 + ctB (uN (zl S 2)).testBit 64
def dfN (SK : Nat → zS) : Nat → Nat
  | 0 => 0
  | q + 1 => dfN SK q + ctS (SK q)
theorem dfN_e {SK SK' : Nat → zS} : ∀ {q : Nat}, (∀ i : Nat, i < q → SK i = SK' i) → dfN SK q = dfN SK' q
  | 0, _ => rfl
  | q + 1, h => by
    simp only [dfN]
    rw [dfN_e (fun i hi => h i (by omega)), h q (by omega)]
theorem dfN_s (SK : Nat → zS) (q : Nat) (a : zS) : dfN (updS SK q a) (q + 1) = dfN SK q + ctS a := by
  simp only [dfN]
  rw [dfN_e (SK' := SK) (fun i hi => by unfold updS; rw [if_neg (by omega)])]
  congr 1
  unfold updS; rw [if_pos rfl]
theorem ctS_le (S : zS) : ctS S ≤ 128 := by
  have := ctB_le (uN (zl S 1)).testBit 64
  have := ctB_le (uN (zl S 2)).testBit 64
  unfold ctS; omega
theorem dfN_le (SK : Nat → zS) : ∀ q : Nat, dfN SK q ≤ 128 * q
  | 0 => Nat.le_refl _
  | q + 1 => by have := dfN_le SK q; have := ctS_le (SK q); simp only [dfN]; omega
def isQ (nq : Nat) (q : Int32) : Bool := decide (¬ q < 0 ∧ ¬ nI nq ≤ q)
theorem isQ_t {nq q : Nat} (h : q < nq) (hn : nq < 2 ^ 31) : isQ nq (nI q) = true := decide_eq_true ⟨nI_pos (by omega), fun z => absurd (gI hn (by omega) z) (by omega)⟩
theorem isQ_i {nq : Nat} {q : Int32} (hn : nq < 2 ^ 31) (h : isQ nq q = true) : ∃ j : Nat, j < nq ∧ q = nI j := by
  obtain ⟨h1, h2⟩ := of_decide_eq_true h
  obtain ⟨j, hj, rfl, -⟩ := pk_mu h1 h2 (by omega)
  exact ⟨j, hj, rfl⟩
/-! worlds by blocks; a part that stays shut -/
theorem va_P_mem {D : va_G} {cl : List vw_C} {ws : va_W} {H : Heap} : va_P D cl ws H ↔ ∀ q ∈ ws, va_at D cl q H := by
  constructor
  · intro h q hq
    obtain ⟨k, hk⟩ := List.getElem?_of_mem hq
    exact h k q hk
  · intro h k q hk
    exact h q (List.mem_of_getElem? hk)
theorem va_D_mem {A : Nat → Prop} {ws : va_W} : va_D A ws ↔ (ws.map (·.1)).Nodup ∧ ∀ q ∈ ws, A q.1 := by
  constructor
  · intro h
    refine ⟨?_, fun q hq => ?_⟩
    · unfold List.Nodup
      rw [List.pairwise_iff_getElem]
      intro i j hi hj hij e
      have hi' : i < ws.length := by simpa using hi
      have hj' : j < ws.length := by simpa using hj
      rw [List.getElem_map, List.getElem_map] at e
      have := h.1 i j ws[i] ws[j] (List.getElem?_eq_getElem hi') (List.getElem?_eq_getElem hj') e
      omega
    · obtain ⟨k, hk⟩ := List.getElem?_of_mem hq
      exact h.2 k q hk
  · intro h
    refine ⟨fun i j p q hp hq e => ?_, fun k q hk => h.2 q (List.mem_of_getElem? hk)⟩
    obtain ⟨hi, ep⟩ := List.getElem?_eq_some_iff.mp hp
    obtain ⟨hj, eq⟩ := List.getElem?_eq_some_iff.mp hq
    have hn := h.1
    unfold List.Nodup at hn
    rw [List.pairwise_iff_getElem] at hn
    rcases Nat.lt_trichotomy i j with c | c | c
    · have := hn i j (by simpa using hi) (by simpa using hj) c
      rw [List.getElem_map, List.getElem_map, ep, eq] at this
      exact absurd e this
    · exact c
    · have := hn j i (by simpa using hj) (by simpa using hi) c
      rw [List.getElem_map, List.getElem_map, ep, eq] at this
      exact absurd e.symm this
theorem va_P_perm {D : va_G} {cl : List vw_C} {ws ws' : va_W} {H : Heap} (h : ws.Perm ws') (hP : va_P D cl ws H) : va_P D cl ws' H := va_P_mem.mpr (fun q hq => va_P_mem.mp hP q (h.mem_iff.mpr hq))
theorem va_D_perm {A : Nat → Prop} {ws ws' : va_W} (h : ws.Perm ws') (hD : va_D A ws) : va_D A ws' := by
  obtain ⟨h1, h2⟩ := va_D_mem.mp hD
  exact va_D_mem.mpr ⟨(h.map _).nodup_iff.mp h1, fun q hq => h2 q (h.mem_iff.mpr hq)⟩
section ZBLK
variable {X : zT} {l : Launch} {rm : Room} {E : zE} {cc : ByteArray} {nl : Nat} {own : String} {k n : Nat} {ws ws' : va_W} {lv : List (Nat × Value)} {pc : Nat} {st : List Value}
theorem z_perm (h : ws.Perm ws') (K : Z X k n ws' lv pc st) : Z X k n ws lv pc st := by
  obtain ⟨p, l, e, R, s, m, args, below, meth, c, E, A, nL, Q⟩ := X
  intro H locs ls hP hD hS hl
  exact K H locs ls (va_P_perm h hP) (va_D_perm h hD) hS hl
def wcat : List va_W → va_W
  | [] => []
  | a :: l => l.foldl (fun x y => x ++ y) a
theorem wcat_fl (bs : List va_W) : (wcat bs) = bs.flatten := by
  cases bs with
  | nil => rfl
  | cons a l =>
    have : ∀ (l : List va_W) (a : va_W), l.foldl (fun x y => x ++ y) a = a ++ l.flatten := by
      intro l
      induction l with
      | nil => intro a; simp
      | cons b l ih => intro a; rw [List.foldl_cons, ih]; simp
    exact this l a
theorem blk_perm {α : Type} {bs bs' : List α} (is : List Nat) (hp : is.isPerm (List.range bs.length) = true) (h : is.map (fun i => bs[i]?) = bs'.map some) : bs.Perm bs' := by
  have hr := List.isPerm_iff.mp hp
  have h1 : (is.map (fun i => bs[i]?)).Perm ((List.range bs.length).map (fun i => bs[i]?)) := hr.map _
  have h2 : (List.range bs.length).map (fun i => bs[i]?) = bs.map some := by
    apply List.ext_getElem?
    intro i
    rw [List.getElem?_map, List.getElem?_map]
    by_cases q : i < bs.length
    · rw [List.getElem?_range q]; simp [List.getElem?_eq_getElem q]
    · rw [List.getElem?_eq_none (by simpa using q), List.getElem?_eq_none (by omega)]; rfl
  rw [h, h2] at h1
  have := h1.filterMap id
  rw [List.filterMap_map, List.filterMap_map] at this
  simpa using this.symm
theorem z_blk (bs bs' : List va_W) (is : List Nat) (N : Nat) (hN : bs.length = N) (hp : is.isPerm (List.range N) = true) (h : is.map (fun i => bs[i]?) = bs'.map some) (K : Z X k n (wcat bs') lv pc st) : Z X k n (wcat bs) lv pc st := by
  refine z_perm ?_ K
  rw [wcat_fl, wcat_fl]
  subst hN
  exact (blk_perm is hp h).flatten
variable {y : MethodName} {b : ByteArray} {nl' : Nat} {rt : Option FieldType} {rm' : Room} {wc wr : va_W} {As rest : List Value} {post : Option Value → va_W → Prop} {index : Nat}
theorem rg_C (wc wr : va_W) : (List.range wc.length).map (fun i => (wc ++ wr)[i]?) = wc.map some := by
  apply List.ext_getElem?
  intro i
  rw [List.getElem?_map, List.getElem?_map]
  by_cases q : i < wc.length
  · rw [List.getElem?_range q]; simp [List.getElem?_append_left q, List.getElem?_eq_getElem q]
  · rw [List.getElem?_eq_none (by simpa using q), List.getElem?_eq_none (by omega)]; rfl
theorem rg_R (wc wr : va_W) : ((List.range wr.length).map (· + wc.length)).map (fun i => (wc ++ wr)[i]?) = wr.map some := by
  apply List.ext_getElem?
  intro i
  rw [List.map_map, List.getElem?_map, List.getElem?_map]
  by_cases q : i < wr.length
  · rw [List.getElem?_range q]
    show some ((wc ++ wr)[i + wc.length]?) = _
    rw [List.getElem?_append_right (by omega), Nat.add_sub_cancel, List.getElem?_eq_getElem q]; rfl
  · rw [List.getElem?_eq_none (by simpa using q), List.getElem?_eq_none (by omega)]; rfl
theorem nd_of {l : List Nat} (h : l.Nodup) : va_nd l = true := by
  induction l with
  | nil => rfl
  | cons a l ih =>
    have := List.nodup_cons.mp h
    simp [va_nd, ih this.2, this.1]
/-- a call of which the callee's world stands ahead, whatever lies behind -/
theorem z_callVF (F : zF X l rm E cc nl own) {a ci q0 : Nat} {r : vw_C} {fs : List Value} (hM : Ct l y b nl' rt rm' E wc (.ref a :: As) post) (na : Nat)
    (hw : Cond.code y b nl' rt ∈ lw_tb ∧ Cond.methodLink own index y ∈ lw_tb ∧ Cond.instanceMethod y ∈ lw_tb ∧ Cond.selects y.cls y y ∈ lw_tb ∧ Cond.initialized y.cls ∈ lw_tb)
    (hy : y.cls ≠ "java/lang/invoke/MethodHandle" ∧ y.cls ≠ "java/lang/invoke/VarHandle" ∧ (parseMethodDescriptor y.desc).map (fun d => d.parameters.length) = some na) (hna : As.length = na)
    (hrm : rm'.frames + 1 ≤ rm.frames ∧ 8 + (nl' + 11) + rm'.locals ≤ rm.locals) (hcs : k + rm'.cells ≤ rm.cells ∧ n + rm'.slots ≤ rm.slots)
    (he : wc[q0]? = some (a, .inr (ci, fs))) (hc : vwCl[ci]? = some r) (hr : r.1 = y.cls)
    (hst : st = As.reverse ++ .ref a :: rest) (hcat : (rest.map fun v => v.category).sum ≤ 8) (hd : decode cc pc = .ok (.invokevirtual index, 3))
    (K : ∀ (v : Option Value) (w1 : va_W), post v w1 → Z X (k + rm'.cells) (n + rm'.slots) (w1 ++ wr) lv (pc + 3) (v.toList ++ rest)) : Z X k n (wc ++ wr) lv pc st := by
  refine z_callV (q0 := q0) (ci := ci) (r := r) (fs := fs) (wr := wr) F hM na (List.range wc.length) ((List.range wr.length).map (· + wc.length)) (rg_C wc wr) (rg_R wc wr) ⟨nd_of List.nodup_range, nd_of ?_, ?_⟩ hw hy hna hrm hcs ?_ hc hr hst hcat hd (fun v w1 hp => z_perm List.perm_append_comm (K v w1 hp))
  · have hx : ((List.range wr.length).map (· + wc.length)).Pairwise (· ≠ ·) := List.pairwise_map.mpr (List.nodup_range.imp (fun h e => h (by omega)))
    exact hx
  · refine List.all_eq_true.mpr (fun i hi => ?_)
    obtain ⟨j, -, rfl⟩ := List.mem_map.mp hi
    simp
  · have hl := (List.getElem?_eq_some_iff.mp he).1
    rw [List.getElem?_append_left hl]; exact he
end ZBLK
/-! six of Kept -/
theorem fm_congr {f g : Nat → va_W} : ∀ {l : List Nat}, (∀ x ∈ l, f x = g x) → l.flatMap f = l.flatMap g
  | [], _ => rfl
  | a :: l, h => by
    rw [List.flatMap_cons, List.flatMap_cons, h a List.mem_cons_self, fm_congr (fun x hx => h x (List.mem_cons_of_mem _ hx))]
abbrev kq (E : zE) (rk rp rg : Nat → Nat → Nat) (rs rw : Nat → Nat) (SK SG SP : Nat → zS) (q : Nat) : va_W := kpw E (rk q) ((rp q) 0) ((rg q) 0) (rs 0) (rw 0) (SK q) ++ grw E (rg q) (SG q) ++ plw E (rp q) (SP q)
def k6 (E : zE) (rk rp rg : Nat → Nat → Nat) (rs rw : Nat → Nat) (SK SG SP : Nat → zS) : va_W := (List.range 6).flatMap (kq E rk rp rg rs rw SK SG SP)
def k5 (E : zE) (rk rp rg : Nat → Nat → Nat) (rs rw : Nat → Nat) (SK SG SP : Nat → zS) (q : Nat) : va_W := ((List.range 6).filter (fun i => decide (¬ i = q))).flatMap (kq E rk rp rg rs rw SK SG SP)
section SIX
variable {E : zE} {rk rp rg : Nat → Nat → Nat} {rs rw : Nat → Nat} {SK SG SP : Nat → zS}
theorem k6_perm {q : Nat} (hq : q < 6) : (k6 E rk rp rg rs rw SK SG SP).Perm (kq E rk rp rg rs rw SK SG SP q ++ k5 E rk rp rg rs rw SK SG SP q) := by
  have hp : ∀ j : Fin 6, (List.range 6).Perm (j.val :: (List.range 6).filter (fun i => decide (¬ i = j.val))) := by decide
  have := (hp ⟨q, hq⟩).flatMap_right (kq E rk rp rg rs rw SK SG SP)
  rw [List.flatMap_cons] at this
  exact this
theorem k5_upd (q : Nat) (a b c : zS) : k5 E rk rp rg rs rw (updS SK q a) (updS SG q b) (updS SP q c) q = k5 E rk rp rg rs rw SK SG SP q := by
  unfold k5
  refine fm_congr fun i hi => ?_
  have : ¬ i = q := by have := (List.mem_filter.mp hi).2; simpa using this
  show kpw E (rk i) ((rp i) 0) ((rg i) 0) (rs 0) (rw 0) (updS SK q a i) ++ grw E (rg i) (updS SG q b i) ++ plw E (rp i) (updS SP q c i) = _
  unfold updS
  rw [if_neg this, if_neg this, if_neg this]
theorem updS_at (f : Nat → zS) (q : Nat) (a : zS) : updS f q a q = a := by unfold updS; rw [if_pos rfl]
theorem updS_id (f : Nat → zS) (q : Nat) : updS f q (f q) = f := by
  funext i; unfold updS
  by_cases e : i = q
  · rw [if_pos e, e]
  · rw [if_neg e]
variable {X : zT} {k n : Nat} {lv : List (Nat × Value)} {pc : Nat} {st : List Value}
theorem z_split {B : va_W} (q : Nat) (hq : q < 6) (K : Z X k n (B ++ kpw E (rk q) ((rp q) 0) ((rg q) 0) (rs 0) (rw 0) (SK q) ++ grw E (rg q) (SG q) ++ plw E (rp q) (SP q) ++ k5 E rk rp rg rs rw SK SG SP q) lv pc st) : Z X k n (B ++ k6 E rk rp rg rs rw SK SG SP) lv pc st := by
  refine z_perm ?_ K
  have := (k6_perm (E := E) (rk := rk) (rp := rp) (rg := rg) (rs := rs) (rw := rw) (SK := SK) (SG := SG) (SP := SP) hq).append_left B
  simpa [List.append_assoc] using this
theorem z_join6 {B : va_W} (q : Nat) (hq : q < 6) {a b c : zS} (K : Z X k n (B ++ k6 E rk rp rg rs rw (updS SK q a) (updS SG q b) (updS SP q c)) lv pc st) : Z X k n (B ++ kpw E (rk q) ((rp q) 0) ((rg q) 0) (rs 0) (rw 0) a ++ grw E (rg q) b ++ plw E (rp q) c ++ k5 E rk rp rg rs rw SK SG SP q) lv pc st := by
  refine z_perm ?_ K
  have := (k6_perm (E := E) (rk := rk) (rp := rp) (rg := rg) (rs := rs) (rw := rw) (SK := updS SK q a) (SG := updS SG q b) (SP := updS SP q c) hq).append_left B
  rw [k5_upd] at this
  have h2 : kq E rk rp rg rs rw (updS SK q a) (updS SG q b) (updS SP q c) q = kpw E (rk q) ((rp q) 0) ((rg q) 0) (rs 0) (rw 0) a ++ grw E (rg q) b ++ plw E (rp q) c := by
    show kpw E (rk q) ((rp q) 0) ((rg q) 0) (rs 0) (rw 0) (updS SK q a q) ++ grw E (rg q) (updS SG q b q) ++ plw E (rp q) (updS SP q c q) = _
    rw [updS_at, updS_at, updS_at]
  rw [h2] at this
  simpa [List.append_assoc] using this.symm
end SIX

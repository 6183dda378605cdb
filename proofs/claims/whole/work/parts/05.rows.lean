/-! States of a part of the world: int fields, long fields, int rows, long rows, each by its number. -/
abbrev zS : Type := (Nat → Int32) × (Nat → Int64) × (Nat → Nat → Int32) × (Nat → Nat → Int64)
abbrev zi (S : zS) (k : Nat) : Int32 := S.1 k
abbrev zl (S : zS) (k : Nat) : Int64 := S.2.1 k
abbrev za (S : zS) (k : Nat) : Nat → Int32 := S.2.2.1 k
abbrev zb (S : zS) (k : Nat) : Nat → Int64 := S.2.2.2 k
def zI (S : zS) (k : Nat) (v : Int32) : zS := (fun i => if i = k then v else S.1 i, S.2.1, S.2.2.1, S.2.2.2)
def zL (S : zS) (k : Nat) (v : Int64) : zS := (S.1, fun i => if i = k then v else S.2.1 i, S.2.2.1, S.2.2.2)
def zA (S : zS) (k j : Nat) (v : Int32) : zS := (S.1, S.2.1, fun i => if i = k then upd (S.2.2.1 i) j v else S.2.2.1 i, S.2.2.2)
def zB (S : zS) (k j : Nat) (v : Int64) : zS := (S.1, S.2.1, S.2.2.1, fun i => if i = k then vp_updL (S.2.2.2 i) j v else S.2.2.2 i)
def bI (b : Bool) : Int32 := if b then 1 else 0
theorem bI_f {b : Bool} (h : bI b = 0) : b = false := by cases b <;> simp [bI] at h ⊢
theorem bI_t {b : Bool} (h : ¬ bI b = 0) : b = true := by cases b <;> simp [bI] at h ⊢
theorem bI_nb (b : Bool) : narrow .boolean (.int (bI b)) = .int (bI b) := by cases b <;> rfl
theorem bI_fb (b : Bool) : fits .boolean (.int (bI b)) = true := by cases b <;> rfl
theorem bI_vb (b : Bool) : vp_nar .boolean (bI b) = bI b := by cases b <;> rfl
theorem bI_eq {a b : Bool} : bI a = bI b ↔ a = b := by cases a <;> cases b <;> simp [bI]
theorem nI_lit (n : Nat) : Int32.ofNat n = nI n := rfl
section ZROWS2
variable {X : zT} {l : Launch} {rm : Room} {E : zE} {cc : ByteArray} {nl : Nat} {own : String} {k n : Nat} {ws : va_W} {lv : List (Nat × Value)} {pc : Nat} {st : List Value}
theorem z_ialdN (F : zF X l rm E cc nl own) (q t : Nat) {a : Nat} {cA : ClassId} {sz : Nat} {f : Nat → Int32} (ha : ws[q]? = some (a, .inl (cA, sz, .inl f))) (ht : (zty E.2)[t]? = some (cA, .int)) {i : Int32} (j : Nat) (hi : i = nI j) (hj : j < sz) (hs : sz < 2 ^ 31) (hd : decode cc pc = .ok (.iaload, 1)) (K : Z X k n ws lv (pc + 1) (.int (f j) :: st)) : Z X k n ws lv pc (.int i :: .ref a :: st) := by
  subst hi
  refine z_iald F q t ha ht (vp_in_nI hj hs) hd ?_
  rw [nI_clamp (by omega)]
  exact K
theorem z_zaldN (F : zF X l rm E cc nl own) (q t : Nat) {a : Nat} {cA : ClassId} {sz : Nat} {f : Nat → Int32} (ha : ws[q]? = some (a, .inl (cA, sz, .inl f))) (ht : (zty E.2)[t]? = some (cA, .boolean)) {i : Int32} (j : Nat) (hi : i = nI j) (hj : j < sz) (hs : sz < 2 ^ 31) (hd : decode cc pc = .ok (.baload, 1)) (K : Z X k n ws lv (pc + 1) (.int (f j) :: st)) : Z X k n ws lv pc (.int i :: .ref a :: st) := by
  subst hi
  refine z_zald F q t ha ht (vp_in_nI hj hs) hd ?_
  rw [nI_clamp (by omega)]
  exact K
theorem z_caldN (F : zF X l rm E cc nl own) (q t : Nat) {a : Nat} {cA : ClassId} {sz : Nat} {f : Nat → Int32} (ha : ws[q]? = some (a, .inl (cA, sz, .inl f))) (ht : (zty E.2)[t]? = some (cA, .char)) {i : Int32} (j : Nat) (hi : i = nI j) (hj : j < sz) (hs : sz < 2 ^ 31) (hd : decode cc pc = .ok (.caload, 1)) (K : Z X k n ws lv (pc + 1) (.int (f j) :: st)) : Z X k n ws lv pc (.int i :: .ref a :: st) := by
  subst hi
  refine z_cald F q t ha ht (vp_in_nI hj hs) hd ?_
  rw [nI_clamp (by omega)]
  exact K
theorem z_laldN (F : zF X l rm E cc nl own) (q t : Nat) {a : Nat} {cA : ClassId} {sz : Nat} {f : Nat → Int64} (ha : ws[q]? = some (a, .inl (cA, sz, .inr (.inl f)))) (ht : (zty E.2)[t]? = some (cA, .long)) {i : Int32} (j : Nat) (hi : i = nI j) (hj : j < sz) (hs : sz < 2 ^ 31) (hd : decode cc pc = .ok (.laload, 1)) (K : Z X k n ws lv (pc + 1) (.long (f j) :: st)) : Z X k n ws lv pc (.int i :: .ref a :: st) := by
  subst hi
  refine z_lald F q t ha ht (vp_in_nI hj hs) hd ?_
  rw [nI_clamp (by omega)]
  exact K
theorem z_aaldN (F : zF X l rm E cc nl own) (q t : Nat) {a : Nat} {cA : ClassId} {C : String} {sz : Nat} {f : Nat → Option Nat} (ha : ws[q]? = some (a, .inl (cA, sz, .inr (.inr (.inr (.inr f)))))) (ht : (zty E.2)[t]? = some (cA, .object C)) {i : Int32} (j : Nat) (hi : i = nI j) (hj : j < sz) (hs : sz < 2 ^ 31) (hd : decode cc pc = .ok (.aaload, 1)) (K : Z X k n ws lv (pc + 1) (va_rf (f j) :: st)) : Z X k n ws lv pc (.int i :: .ref a :: st) := by
  subst hi
  refine z_aald F q t ha ht (vp_in_nI hj hs) hd ?_
  rw [nI_clamp (by omega)]
  exact K
theorem z_iastN (F : zF X l rm E cc nl own) (q t : Nat) {a : Nat} {cA : ClassId} {sz : Nat} {f : Nat → Int32} (ha : ws[q]? = some (a, .inl (cA, sz, .inl f))) (ht : (zty E.2)[t]? = some (cA, .int)) {i : Int32} {x : Int32} (j : Nat) (hi : i = nI j) (hj : j < sz) (hs : sz < 2 ^ 31) (hd : decode cc pc = .ok (.iastore, 1)) {ws' : va_W} (hws : ws.set q (a, .inl (cA, sz, .inl (upd f j x))) = ws') (K : Z X k n ws' lv (pc + 1) st) : Z X k n ws lv pc (.int x :: .int i :: .ref a :: st) := by
  subst hi
  refine z_iast F q t ha ht (vp_in_nI hj hs) hd rfl ?_
  rw [nI_clamp (by omega), hws]
  exact K
theorem z_zastN (F : zF X l rm E cc nl own) (q t : Nat) {a : Nat} {cA : ClassId} {sz : Nat} {f : Nat → Int32} (ha : ws[q]? = some (a, .inl (cA, sz, .inl f))) (ht : (zty E.2)[t]? = some (cA, .boolean)) {i : Int32} {x : Int32} (j : Nat) (hi : i = nI j) (hj : j < sz) (hs : sz < 2 ^ 31) (hx : vp_nar .boolean x = x) (hd : decode cc pc = .ok (.bastore, 1)) {ws' : va_W} (hws : ws.set q (a, .inl (cA, sz, .inl (upd f j x))) = ws') (K : Z X k n ws' lv (pc + 1) st) : Z X k n ws lv pc (.int x :: .int i :: .ref a :: st) := by
  subst hi
  refine z_zast F q t ha ht (vp_in_nI hj hs) hd rfl ?_
  rw [nI_clamp (by omega), hx, hws]
  exact K
theorem z_castN (F : zF X l rm E cc nl own) (q t : Nat) {a : Nat} {cA : ClassId} {sz : Nat} {f : Nat → Int32} (ha : ws[q]? = some (a, .inl (cA, sz, .inl f))) (ht : (zty E.2)[t]? = some (cA, .char)) {i : Int32} {x : Int32} (j : Nat) (hi : i = nI j) (hj : j < sz) (hs : sz < 2 ^ 31) (hx : vp_nar .char x = x) (hd : decode cc pc = .ok (.castore, 1)) {ws' : va_W} (hws : ws.set q (a, .inl (cA, sz, .inl (upd f j x))) = ws') (K : Z X k n ws' lv (pc + 1) st) : Z X k n ws lv pc (.int x :: .int i :: .ref a :: st) := by
  subst hi
  refine z_cast F q t ha ht (vp_in_nI hj hs) hd rfl ?_
  rw [nI_clamp (by omega), hx, hws]
  exact K
theorem z_lastN (F : zF X l rm E cc nl own) (q t : Nat) {a : Nat} {cA : ClassId} {sz : Nat} {f : Nat → Int64} (ha : ws[q]? = some (a, .inl (cA, sz, .inr (.inl f)))) (ht : (zty E.2)[t]? = some (cA, .long)) {i : Int32} {x : Int64} (j : Nat) (hi : i = nI j) (hj : j < sz) (hs : sz < 2 ^ 31) (hd : decode cc pc = .ok (.lastore, 1)) {ws' : va_W} (hws : ws.set q (a, .inl (cA, sz, .inr (.inl (vp_updL f j x)))) = ws') (K : Z X k n ws' lv (pc + 1) st) : Z X k n ws lv pc (.long x :: .int i :: .ref a :: st) := by
  subst hi
  refine z_last F q t ha ht (vp_in_nI hj hs) hd rfl ?_
  rw [nI_clamp (by omega), hws]
  exact K
theorem z_l_lt (F : zF X l rm E cc nl own) {x y : Int64} {off : Int} {tgt : Nat} (hd : decode cc pc = .ok (.lcmp, 1)) (hd2 : decode cc (pc + 1) = .ok (.ifCond .lt off, 3)) (ht : ((pc + 1 : Nat) : Int) + off = (tgt : Int)) (kt : x < y → Z X k n ws lv tgt st) (kf : ¬ (x < y) → Z X k n ws lv (pc + 4) st) : Z X k n ws lv pc (.long y :: .long x :: st) := by
  refine z_lcmp F hd ?_
  exact z_if_lt F hd2 ht (fun h => kt ((lg_cmp_lt x y).mp h)) (fun h => kf (fun q => h ((lg_cmp_lt x y).mpr q)))
theorem z_l_ge (F : zF X l rm E cc nl own) {x y : Int64} {off : Int} {tgt : Nat} (hd : decode cc pc = .ok (.lcmp, 1)) (hd2 : decode cc (pc + 1) = .ok (.ifCond .ge off, 3)) (ht : ((pc + 1 : Nat) : Int) + off = (tgt : Int)) (kt : y ≤ x → Z X k n ws lv tgt st) (kf : ¬ (y ≤ x) → Z X k n ws lv (pc + 4) st) : Z X k n ws lv pc (.long y :: .long x :: st) := by
  refine z_lcmp F hd ?_
  exact z_if_ge F hd2 ht (fun h => kt ((lg_cmp_ge x y).mp h)) (fun h => kf (fun q => h ((lg_cmp_ge x y).mpr q)))
theorem z_l_gt (F : zF X l rm E cc nl own) {x y : Int64} {off : Int} {tgt : Nat} (hd : decode cc pc = .ok (.lcmp, 1)) (hd2 : decode cc (pc + 1) = .ok (.ifCond .gt off, 3)) (ht : ((pc + 1 : Nat) : Int) + off = (tgt : Int)) (kt : y < x → Z X k n ws lv tgt st) (kf : ¬ (y < x) → Z X k n ws lv (pc + 4) st) : Z X k n ws lv pc (.long y :: .long x :: st) := by
  refine z_lcmp F hd ?_
  exact z_if_gt F hd2 ht (fun h => kt ((lg_cmp_gt x y).mp h)) (fun h => kf (fun q => h ((lg_cmp_gt x y).mpr q)))
theorem z_l_le (F : zF X l rm E cc nl own) {x y : Int64} {off : Int} {tgt : Nat} (hd : decode cc pc = .ok (.lcmp, 1)) (hd2 : decode cc (pc + 1) = .ok (.ifCond .le off, 3)) (ht : ((pc + 1 : Nat) : Int) + off = (tgt : Int)) (kt : x ≤ y → Z X k n ws lv tgt st) (kf : ¬ (x ≤ y) → Z X k n ws lv (pc + 4) st) : Z X k n ws lv pc (.long y :: .long x :: st) := by
  refine z_lcmp F hd ?_
  exact z_if_le F hd2 ht (fun h => kt ((lg_cmp_le x y).mp h)) (fun h => kf (fun q => h ((lg_cmp_le x y).mpr q)))
theorem z_l_eq (F : zF X l rm E cc nl own) {x y : Int64} {off : Int} {tgt : Nat} (hd : decode cc pc = .ok (.lcmp, 1)) (hd2 : decode cc (pc + 1) = .ok (.ifCond .eq off, 3)) (ht : ((pc + 1 : Nat) : Int) + off = (tgt : Int)) (kt : x = y → Z X k n ws lv tgt st) (kf : ¬ (x = y) → Z X k n ws lv (pc + 4) st) : Z X k n ws lv pc (.long y :: .long x :: st) := by
  refine z_lcmp F hd ?_
  exact z_if_eq F hd2 ht (fun h => kt ((lg_cmp_eq x y).mp h)) (fun h => kf (fun q => h ((lg_cmp_eq x y).mpr q)))
theorem z_l_ne (F : zF X l rm E cc nl own) {x y : Int64} {off : Int} {tgt : Nat} (hd : decode cc pc = .ok (.lcmp, 1)) (hd2 : decode cc (pc + 1) = .ok (.ifCond .ne off, 3)) (ht : ((pc + 1 : Nat) : Int) + off = (tgt : Int)) (kt : ¬ x = y → Z X k n ws lv tgt st) (kf : x = y → Z X k n ws lv (pc + 4) st) : Z X k n ws lv pc (.long y :: .long x :: st) := by
  refine z_lcmp F hd ?_
  exact z_if_ne F hd2 ht (fun h => kt (fun q => h ((lg_cmp_eq x y).mpr q))) (fun h => kf ((lg_cmp_eq x y).mp h))
end ZROWS2

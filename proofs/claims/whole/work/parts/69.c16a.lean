/-! bits: how many, and which -/
def shr (x : Int64) (k : Int32) : Int64 := (x.toUInt64 >>> (k.toInt64.toUInt64 &&& Int64.toUInt64 63)).toInt64
def bc1 (x : Int64) : Int64 := x - (shr x 1 &&& 6148914691236517205)
def bc2 (x : Int64) : Int64 := (x &&& 3689348814741910323) + (shr x 2 &&& 3689348814741910323)
def bc3 (x : Int64) : Int64 := (x + shr x 4) &&& 1085102592571150095
def bc4 (x : Int64) : Int64 := x + shr x 8
def bc5 (x : Int64) : Int64 := x + shr x 16
def bc6 (x : Int64) : Int64 := x + shr x 32
def bcI (x : Int64) : Int32 := (bc6 (bc5 (bc4 (bc3 (bc2 (bc1 x)))))).toInt32 &&& 127
abbrev uN (x : Int64) : Nat := x.toBitVec.toNat
theorem uN_shr (x : Int64) {k : Int32} {n : Nat} (h : ((k.toInt64.toUInt64 &&& Int64.toUInt64 63) % 64).toBitVec.toNat = n) : uN (shr x k) = uN x / 2 ^ n := by
  have e : (shr x k).toBitVec = x.toBitVec >>> ((k.toInt64.toUInt64 &&& Int64.toUInt64 63) % 64).toBitVec.toNat := rfl
  unfold uN
  rw [e, h, BitVec.toNat_ushiftRight, Nat.shiftRight_eq_div_pow]
theorem uN_and (x y : Int64) : uN (x &&& y) = uN x &&& uN y := BitVec.toNat_and ..
theorem uN_add (x y : Int64) : uN (x + y) = (uN x + uN y) % 18446744073709551616 := BitVec.toNat_add ..
theorem uN_sub (x y : Int64) : uN (x - y) = (18446744073709551616 - uN y + uN x) % 18446744073709551616 := BitVec.toNat_sub ..
theorem uN_lt (x : Int64) : uN x < 18446744073709551616 := x.toBitVec.isLt
def msk (k : Nat) : Nat → Nat
  | 0 => 0
  | n + 1 => k + 256 * msk k n
theorem and256 {a b : Nat} (ha : a < 256) (hb : b < 256) (h m : Nat) : (a + 256 * h) &&& (b + 256 * m) = (a &&& b) + 256 * (h &&& m) := by
  have e1 : ((a + 256 * h) &&& (b + 256 * m)) % 2 ^ 8 = a &&& b := by
    rw [Nat.and_mod_two_pow]
    rw [show (a + 256 * h) % 2 ^ 8 = a by omega, show (b + 256 * m) % 2 ^ 8 = b by omega]
  have e2 : ((a + 256 * h) &&& (b + 256 * m)) / 2 ^ 8 = h &&& m := by
    rw [Nat.and_div_two_pow]
    rw [show (a + 256 * h) / 2 ^ 8 = h by omega, show (b + 256 * m) / 2 ^ 8 = m by omega]
  have := Nat.div_add_mod ((a + 256 * h) &&& (b + 256 * m)) (2 ^ 8)
  rw [e1, e2] at this
  omega
def n1 (n x : Nat) : Nat := x - ((x / 2) &&& msk 85 n)
def n2 (n x : Nat) : Nat := (x &&& msk 51 n) + ((x / 4) &&& msk 51 n)
def n3 (n x : Nat) : Nat := (x + x / 16) &&& msk 15 n
def p1 (b : Nat) : Nat := b - ((b / 2) &&& 85)
def p2 (b : Nat) : Nat := (b &&& 51) + ((b / 4) &&& 51)
def p3 (b : Nat) : Nat := (b + b / 16) &&& 15
theorem f1 {b t : Nat} (hb : b < 256) (ht : t < 2) : (b / 2 + 128 * t) &&& 85 = (b / 2) &&& 85 := by
  have : ∀ (b : Fin 256) (t : Fin 2), (b.val / 2 + 128 * t.val) &&& 85 = (b.val / 2) &&& 85 := by decide +kernel
  exact this ⟨b, hb⟩ ⟨t, ht⟩
theorem f2 {b t : Nat} (hb : b < 256) (ht : t < 4) : (b / 4 + 64 * t) &&& 51 = (b / 4) &&& 51 := by
  have : ∀ (b : Fin 256) (t : Fin 4), (b.val / 4 + 64 * t.val) &&& 51 = (b.val / 4) &&& 51 := by decide +kernel
  exact this ⟨b, hb⟩ ⟨t, ht⟩
theorem f3 {b t : Nat} (hb : b < 69) (ht : t < 5) : (b + b / 16 + 16 * t) &&& 15 = (b + b / 16) &&& 15 := by
  have : ∀ (b : Fin 69) (t : Fin 5), (b.val + b.val / 16 + 16 * t.val) &&& 15 = (b.val + b.val / 16) &&& 15 := by decide +kernel
  exact this ⟨b, hb⟩ ⟨t, ht⟩
theorem f4 {b : Nat} (hb : b < 256) : p1 b < 256 ∧ p2 (p1 b) < 69 ∧ p2 (p1 b) % 16 < 5 ∧ p3 (p2 (p1 b)) = ctB b.testBit 8 := by
  have : ∀ b : Fin 256, p1 b.val < 256 ∧ p2 (p1 b.val) < 69 ∧ p2 (p1 b.val) % 16 < 5 ∧ p3 (p2 (p1 b.val)) = ctB b.val.testBit 8 := by decide +kernel
  exact this ⟨b, hb⟩
theorem n1_s {b : Nat} (hb : b < 256) (n q : Nat) : n1 (n + 1) (b + 256 * q) = p1 b + 256 * n1 n q := by
  unfold n1 p1
  have e : (b + 256 * q) / 2 = (b / 2 + 128 * (q % 2)) + 256 * (q / 2) := by omega
  have h1 : (b / 2) &&& 85 ≤ b := Nat.le_trans Nat.and_le_left (by omega)
  have h2 : (q / 2) &&& msk 85 n ≤ q := Nat.le_trans Nat.and_le_left (by omega)
  rw [e, show msk 85 (n + 1) = 85 + 256 * msk 85 n from rfl, and256 (by omega) (by decide), f1 hb (Nat.mod_lt _ (by decide))]
  omega
theorem n2_s {b : Nat} (hb : b < 256) (n q : Nat) : n2 (n + 1) (b + 256 * q) = p2 b + 256 * n2 n q := by
  unfold n2 p2
  have e : (b + 256 * q) / 4 = (b / 4 + 64 * (q % 4)) + 256 * (q / 4) := by omega
  rw [e, show msk 51 (n + 1) = 51 + 256 * msk 51 n from rfl, and256 hb (by decide) q, and256 (show b / 4 + 64 * (q % 4) < 256 by omega) (by decide), f2 hb (Nat.mod_lt _ (by decide))]
  omega
theorem n3_s {b : Nat} (hb : b < 69) (n : Nat) {q : Nat} (hq : q % 16 < 5) : n3 (n + 1) (b + 256 * q) = p3 b + 256 * n3 n q := by
  unfold n3 p3
  have e : b + 256 * q + (b + 256 * q) / 16 = (b + b / 16 + 16 * (q % 16)) + 256 * (q + q / 16) := by omega
  rw [e, show msk 15 (n + 1) = 15 + 256 * msk 15 n from rfl, and256 (by omega) (by decide), f3 hb hq]
theorem n12_m (n x : Nat) (hx : x < 256 ^ n) : n2 n (n1 n x) % 16 < 5 := by
  cases n with
  | zero =>
    have : x = 0 := by simpa using hx
    subst this; decide
  | succ n =>
    have e : x = x % 256 + 256 * (x / 256) := by omega
    have hb := f4 (Nat.mod_lt x (show 0 < 256 by decide))
    rw [e, n1_s (Nat.mod_lt _ (by decide)), n2_s hb.1]
    omega
theorem F_s (n x : Nat) (hx : x < 256 ^ (n + 1)) : n3 (n + 1) (n2 (n + 1) (n1 (n + 1) x)) = ctB (x % 256).testBit 8 + 256 * n3 n (n2 n (n1 n (x / 256))) := by
  have hm : x % 256 < 256 := Nat.mod_lt x (by decide)
  have hb := f4 hm
  have hq : x / 256 < 256 ^ n := by rw [Nat.pow_succ] at hx; omega
  have e : x = x % 256 + 256 * (x / 256) := by omega
  have := n3_s hb.2.1 n (n12_m n (x / 256) hq)
  rw [← n2_s hb.1, ← n1_s hm, ← e, hb.2.2.2] at this
  exact this
theorem ctB_ext {f g : Nat → Bool} : ∀ {n : Nat}, (∀ i : Nat, i < n → f i = g i) → ctB f n = ctB g n
  | 0, _ => rfl
  | n + 1, h => by
    simp only [ctB]
    rw [ctB_ext (fun i hi => h i (by omega)), h n (by omega)]
theorem ctB_add (f : Nat → Bool) (a : Nat) : ∀ b : Nat, ctB f (a + b) = ctB f a + ctB (fun i => f (a + i)) b
  | 0 => rfl
  | b + 1 => by
    show ctB f (a + b) + (if f (a + b) then 1 else 0) = ctB f a + (ctB (fun i => f (a + i)) b + (if f (a + b) then 1 else 0))
    rw [ctB_add f a b, Nat.add_assoc]
theorem ctB_8 (n x : Nat) : ctB x.testBit (8 * (n + 1)) = ctB (x % 256).testBit 8 + ctB (x / 256).testBit (8 * n) := by
  rw [show 8 * (n + 1) = 8 + 8 * n by omega, ctB_add]
  congr 1
  · refine ctB_ext fun i hi => ?_
    rw [show (256 : Nat) = 2 ^ 8 from rfl, Nat.testBit_mod_two_pow]
    simp [hi]
  · refine ctB_ext fun i hi => ?_
    rw [show (256 : Nat) = 2 ^ 8 from rfl, Nat.testBit_div_two_pow]
    congr 1; omega
theorem ct8 (x : Nat) : ctB x.testBit 8 ≤ 8 := ctB_le _ 8
theorem dv1 {a T : Nat} (ha : a < 256) : (a + 256 * T) / 256 = T := by omega
theorem dv2 {a b T : Nat} (ha : a < 256) (hb : b < 256) : (a + 256 * (b + 256 * T)) / 65536 = T := by omega
theorem dv4 {a b c d T : Nat} (ha : a < 256) (hb : b < 256) (hc : c < 256) (hd : d < 256) : (a + 256 * (b + 256 * (c + 256 * (d + 256 * T)))) / 4294967296 = T := by omega
/-- the bytes' counts lie side by side; their sum is the last byte's end -/
theorem fold8 {c0 c1 c2 c3 c4 c5 c6 c7 y : Nat} (h0 : c0 ≤ 8) (h1 : c1 ≤ 8) (h2 : c2 ≤ 8) (h3 : c3 ≤ 8) (h4 : c4 ≤ 8) (h5 : c5 ≤ 8) (h6 : c6 ≤ 8) (h7 : c7 ≤ 8)
    (hy : y = c0 + 256 * (c1 + 256 * (c2 + 256 * (c3 + 256 * (c4 + 256 * (c5 + 256 * (c6 + 256 * c7))))))) :
    ∃ y4 y5 y6, (y + y / 256) % 18446744073709551616 = y4 ∧ (y4 + y4 / 65536) % 18446744073709551616 = y5 ∧ (y5 + y5 / 4294967296) % 18446744073709551616 = y6 ∧ y6 % 128 = c0 + c1 + c2 + c3 + c4 + c5 + c6 + c7 := by
  subst hy
  refine ⟨(c0 + c1) + 256 * ((c1 + c2) + 256 * ((c2 + c3) + 256 * ((c3 + c4) + 256 * ((c4 + c5) + 256 * ((c5 + c6) + 256 * ((c6 + c7) + 256 * c7)))))), (c0 + c1 + c2 + c3) + 256 * ((c1 + c2 + c3 + c4) + 256 * ((c2 + c3 + c4 + c5) + 256 * ((c3 + c4 + c5 + c6) + 256 * ((c4 + c5 + c6 + c7) + 256 * ((c5 + c6 + c7) + 256 * ((c6 + c7) + 256 * c7)))))), (c0 + c1 + c2 + c3 + c4 + c5 + c6 + c7) + 256 * ((c1 + c2 + c3 + c4 + c5 + c6 + c7) + 256 * ((c2 + c3 + c4 + c5 + c6 + c7) + 256 * ((c3 + c4 + c5 + c6 + c7) + 256 * ((c4 + c5 + c6 + c7) + 256 * ((c5 + c6 + c7) + 256 * ((c6 + c7) + 256 * c7)))))), ?_, ?_, ?_, ?_⟩
  · rw [dv1 (by omega), Nat.mod_eq_of_lt (by omega)]; omega
  · rw [dv2 (by omega) (by omega), Nat.mod_eq_of_lt (by omega)]; omega
  · rw [dv4 (by omega) (by omega) (by omega) (by omega), Nat.mod_eq_of_lt (by omega)]; omega
  · omega
theorem bcN {x : Nat} (hx : x < 256 ^ 8) : ∃ c0 c1 c2 c3 c4 c5 c6 c7 : Nat, (c0 ≤ 8 ∧ c1 ≤ 8 ∧ c2 ≤ 8 ∧ c3 ≤ 8 ∧ c4 ≤ 8 ∧ c5 ≤ 8 ∧ c6 ≤ 8 ∧ c7 ≤ 8) ∧ n3 8 (n2 8 (n1 8 x)) = c0 + 256 * (c1 + 256 * (c2 + 256 * (c3 + 256 * (c4 + 256 * (c5 + 256 * (c6 + 256 * c7)))))) ∧ ctB x.testBit 64 = c0 + c1 + c2 + c3 + c4 + c5 + c6 + c7 := by
  have d : ∀ {n y : Nat}, y < 256 ^ (n + 1) → y / 256 < 256 ^ n := fun {n y} h => by rw [Nat.pow_succ] at h; omega
  have x1 := d hx
  have x2 := d x1
  have x3 := d x2
  have x4 := d x3
  have x5 := d x4
  have x6 := d x5
  have x7 := d x6
  refine ⟨ctB (x % 256).testBit 8, ctB (x / 256 % 256).testBit 8, ctB (x / 256 / 256 % 256).testBit 8, ctB (x / 256 / 256 / 256 % 256).testBit 8, ctB (x / 256 / 256 / 256 / 256 % 256).testBit 8, ctB (x / 256 / 256 / 256 / 256 / 256 % 256).testBit 8, ctB (x / 256 / 256 / 256 / 256 / 256 / 256 % 256).testBit 8, ctB (x / 256 / 256 / 256 / 256 / 256 / 256 / 256 % 256).testBit 8, ⟨ct8 _, ct8 _, ct8 _, ct8 _, ct8 _, ct8 _, ct8 _, ct8 _⟩, ?_, ?_⟩
  rotate_left
  · rw [show 64 = 8 * (7 + 1) from rfl, ctB_8, show 8 * 7 = 8 * (6 + 1) from rfl, ctB_8, show 8 * 6 = 8 * (5 + 1) from rfl, ctB_8, show 8 * 5 = 8 * (4 + 1) from rfl, ctB_8, show 8 * 4 = 8 * (3 + 1) from rfl, ctB_8, show 8 * 3 = 8 * (2 + 1) from rfl, ctB_8, show 8 * 2 = 8 * (1 + 1) from rfl, ctB_8, show 8 * 1 = 8 * (0 + 1) from rfl, ctB_8, show ctB _ (8 * 0) = 0 from rfl]
    simp only [Nat.add_assoc, Nat.add_zero]
  · rw [F_s 7 _ hx, F_s 6 _ x1, F_s 5 _ x2, F_s 4 _ x3, F_s 3 _ x4, F_s 2 _ x5, F_s 1 _ x6, F_s 0 _ x7]
    have h0 : x / 256 / 256 / 256 / 256 / 256 / 256 / 256 / 256 = 0 := by have := d x7; simpa using this
    rw [h0, show n3 0 (n2 0 (n1 0 0)) = 0 from by decide, Nat.mul_zero, Nat.add_zero]
theorem bc_ct (x : Int64) : bcI x = nI (ctB (uN x).testBit 64) := by
  obtain ⟨c0, c1, c2, c3, c4, c5, c6, c7, ⟨h0, h1, h2, h3, h4, h5, h6, h7⟩, hy, hc⟩ := bcN (x := uN x) (uN_lt x)
  have hx := uN_lt x
  have e1 : uN (bc1 x) = n1 8 (uN x) := by
    unfold bc1 n1
    rw [uN_sub, uN_and, uN_shr x (n := 1) (by decide), show uN (6148914691236517205 : Int64) = msk 85 8 from by decide]
    have : (uN x / 2 ^ 1) &&& msk 85 8 ≤ uN x := Nat.le_trans Nat.and_le_left (by omega)
    rw [show uN x / 2 ^ 1 = uN x / 2 from rfl] at this ⊢
    omega
  have e2 : uN (bc2 (bc1 x)) = n2 8 (n1 8 (uN x)) := by
    unfold bc2 n2
    rw [uN_add, uN_and, uN_and, uN_shr _ (n := 2) (by decide), show uN (3689348814741910323 : Int64) = msk 51 8 from by decide, e1]
    have a1 : n1 8 (uN x) &&& msk 51 8 ≤ msk 51 8 := Nat.and_le_right
    have a2 : n1 8 (uN x) / 4 &&& msk 51 8 ≤ msk 51 8 := Nat.and_le_right
    have a3 : msk 51 8 = 3689348814741910323 := by decide
    rw [show n1 8 (uN x) / 2 ^ 2 = n1 8 (uN x) / 4 from rfl]
    omega
  have e3 : uN (bc3 (bc2 (bc1 x))) = n3 8 (n2 8 (n1 8 (uN x))) := by
    unfold bc3
    rw [uN_and, uN_add, uN_shr _ (n := 4) (by decide), show uN (1085102592571150095 : Int64) = msk 15 8 from by decide, e2]
    have a1 : n1 8 (uN x) &&& msk 51 8 ≤ msk 51 8 := Nat.and_le_right
    have a2 : n1 8 (uN x) / 4 &&& msk 51 8 ≤ msk 51 8 := Nat.and_le_right
    have a3 : msk 51 8 = 3689348814741910323 := by decide
    have a4 : n2 8 (n1 8 (uN x)) ≤ 7378697629483820646 := by unfold n2; omega
    rw [show n2 8 (n1 8 (uN x)) / 2 ^ 4 = n2 8 (n1 8 (uN x)) / 16 from rfl, Nat.mod_eq_of_lt (by omega)]
    rfl
  obtain ⟨y4, y5, y6, g4, g5, g6, g7⟩ := fold8 h0 h1 h2 h3 h4 h5 h6 h7 hy
  have e4 : uN (bc4 (bc3 (bc2 (bc1 x)))) = y4 := by
    unfold bc4
    rw [uN_add, uN_shr _ (n := 8) (by decide), e3]; exact g4
  have e5 : uN (bc5 (bc4 (bc3 (bc2 (bc1 x))))) = y5 := by
    unfold bc5
    rw [uN_add, uN_shr _ (n := 16) (by decide), e4]; exact g5
  have e6 : uN (bc6 (bc5 (bc4 (bc3 (bc2 (bc1 x)))))) = y6 := by
    unfold bc6
    rw [uN_add, uN_shr _ (n := 32) (by decide), e5]; exact g6
  apply Int32.toBitVec_inj.mp
  apply BitVec.eq_of_toNat_eq
  have t1 : (bcI x).toBitVec.toNat = uN (bc6 (bc5 (bc4 (bc3 (bc2 (bc1 x)))))) % 2 ^ 32 &&& 127 := by
    unfold bcI
    show ((bc6 (bc5 (bc4 (bc3 (bc2 (bc1 x)))))).toBitVec.signExtend 32 &&& 127#32).toNat = _
    rw [BitVec.toNat_and, show (BitVec.signExtend 32 (bc6 (bc5 (bc4 (bc3 (bc2 (bc1 x)))))).toBitVec).toNat = uN (bc6 (bc5 (bc4 (bc3 (bc2 (bc1 x)))))) % 2 ^ 32 from by
      rw [BitVec.signExtend_eq_setWidth_of_le _ (by decide), BitVec.toNat_setWidth]]
    rfl
  rw [t1, e6, show (127 : Nat) = 2 ^ 7 - 1 from rfl, Nat.and_two_pow_sub_one_eq_mod]
  have t2 : (nI (ctB (uN x).testBit 64)).toBitVec.toNat = ctB (uN x).testBit 64 := by
    have := ctB_le (uN x).testBit 64
    show (BitVec.ofNat 32 _).toNat = _
    rw [BitVec.toNat_ofNat]; omega
  rw [t2, hc, ← g7]
  omega
theorem bitL_t {x : Int64} {u : Nat} (hu : u < 64) : bitL x u = (uN x).testBit u := by
  have hs : (((nI u).toInt64.toUInt64 &&& Int64.toUInt64 63) % 64).toBitVec.toNat = u := by
    have : ∀ v : Fin 64, (((nI v.val).toInt64.toUInt64 &&& Int64.toUInt64 63) % 64).toBitVec.toNat = v.val := by decide +kernel
    exact this ⟨u, hu⟩
  have h1 := uN_shr x (k := nI u) (n := u) hs
  have h2 : uN ((x.toUInt64 >>> ((nI u).toInt64.toUInt64 &&& Int64.toUInt64 63)).toInt64 &&& 1) = uN x / 2 ^ u % 2 := by
    rw [uN_and]
    show uN (shr x (nI u)) &&& uN (1 : Int64) = _
    rw [h1, show uN (1 : Int64) = 2 ^ 1 - 1 from by decide, Nat.and_two_pow_sub_one_eq_mod]
  have h3 : ∀ y : Int64, y = 0 ↔ uN y = 0 := fun y => ⟨fun h => by rw [h]; decide, fun h => Int64.toBitVec_inj.mp (BitVec.eq_of_toNat_eq (by rw [show y.toBitVec.toNat = 0 from h]; decide))⟩
  rw [Nat.testBit_eq_decide_div_mod_eq]
  unfold bitL
  refine decide_eq_decide.mpr ?_
  rw [h3, h2]
  omega
theorem note_t {h : Int64} {o u : Nat} (ho : o < 64) (hu : u < 64) : bitL (note h o) u = (bitL h u || decide (o = u)) := by
  rw [bitL_t hu, bitL_t hu]
  have e : (note h o).toBitVec = h.toBitVec ||| ((1 : Int64) <<< ((nI o).toInt64 &&& 63)).toBitVec := rfl
  have e2 : ((1 : Int64) <<< ((nI o).toInt64 &&& 63)).toBitVec = BitVec.ofNat 64 (2 ^ o) := by
    have : ∀ v : Fin 64, ((1 : Int64) <<< ((nI v.val).toInt64 &&& 63)).toBitVec = BitVec.ofNat 64 (2 ^ v.val) := by decide +kernel
    exact this ⟨o, ho⟩
  unfold uN
  rw [e, e2, BitVec.toNat_or, Nat.testBit_or, BitVec.toNat_ofNat, Nat.testBit_mod_two_pow, Nat.testBit_two_pow]
  simp [hu]
theorem bit0 {u : Nat} (hu : u < 64) : bitL 0 u = false := by
  rw [bitL_t hu, show uN (0 : Int64) = 0 from by decide, Nat.zero_testBit]
theorem hf_at {ord : List Nat} {ky : Nat → Int64} {o k x : Nat} (hx : ord[k]? = some x) (h : bfB ky o x = false) : ∀ (j y : Nat), ord[j]? = some y → j + 1 = k + 1 → bfB ky o y = false := fun j y hy e => by
  have e2 : j = k := by omega
  subst e2
  rw [hx] at hy; cases hy; exact h

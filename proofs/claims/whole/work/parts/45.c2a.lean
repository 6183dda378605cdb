/-! the Tape of the class -/
theorem mod16 {x : Int32} (h : 0 ≤ x.toInt ∧ x.toInt < 65536) : (x.toUInt32 % 65536).toInt32 = x := by
  apply Int32.toBitVec_inj.mp
  apply BitVec.eq_of_toNat_eq
  have hx : x.toBitVec.toNat < 65536 := by
    have h1 := h.1; have h2 := h.2
    simp only [Int32.toInt, BitVec.toInt] at h1 h2
    have := x.toBitVec.isLt
    split at h2 <;> omega
  simp [Int32.toUInt32, UInt32.toInt32, UInt32.toBitVec_mod]
  exact Nat.mod_eq_of_lt hx
theorem sh8 (b : BitVec 64) (s : Nat) (hs : s ≤ 56) : (b.sshiftRight s) &&& 255#64 = (b >>> s) &&& 255#64 := by
  apply BitVec.eq_of_getLsbD_eq
  intro i hi
  have h255 : (255#64).getLsbD i = decide (i < 8) := by
    have : ∀ j : Fin 64, (255#64).getLsbD j.val = decide (j.val < 8) := by decide
    exact this ⟨i, hi⟩
  rw [BitVec.getLsbD_and, BitVec.getLsbD_and, h255, BitVec.getLsbD_sshiftRight, BitVec.getLsbD_ushiftRight]
  by_cases h8 : i < 8
  · rw [if_pos (by omega)]
    simp [h8, Nat.not_le.mpr hi]
  · simp [h8]
theorem sh_s {s : Int64} {u : UInt64} {n : Nat} (h1 : (s.toBitVec.smod 64).toNat = n) (h2 : (u % 64).toBitVec.toNat = n) (hn : n ≤ 56) (w : Int64) : ((w.toUInt64 >>> u).toInt64 &&& 255) = (w >>> s) &&& 255 := by
  subst h1
  apply Int64.toBitVec_inj.mp
  have h := sh8 w.toBitVec (s.toBitVec.smod 64).toNat hn
  have e1 : ((w >>> s) &&& 255).toBitVec = (w.toBitVec.sshiftRight (s.toBitVec.smod 64).toNat) &&& 255#64 := rfl
  have e2 : ((w.toUInt64 >>> u).toInt64 &&& 255).toBitVec = (w.toBitVec >>> (u % 64).toBitVec.toNat) &&& 255#64 := rfl
  rw [e1, e2, h2, h]
def byC (w : Int64) (k : Nat) : Int32 := (((w.toUInt64 >>> ((nI (8 * k)).toInt64.toUInt64 &&& Int64.toUInt64 63)).toInt64 &&& 255).toInt32.toUInt32 % 65536).toInt32
theorem byI_rng (w : Int64) (k : Nat) : 0 ≤ (byI w k).toInt ∧ (byI w k).toInt < 65536 := by
  have h : ((w >>> ((nI (8 * k)).toInt64 &&& 63)) &&& 255).toBitVec.toNat ≤ 255 := by
    show ((w >>> ((nI (8 * k)).toInt64 &&& 63)).toBitVec &&& 255#64).toNat ≤ 255
    rw [BitVec.toNat_and]
    exact Nat.and_le_right
  unfold byI
  generalize (w >>> ((nI (8 * k)).toInt64 &&& 63)) &&& 255 = v at h
  have e : v.toInt32.toInt = (v.toBitVec.toNat : Int) := by
    show (v.toBitVec.signExtend 32).toInt = _
    rw [BitVec.toInt_eq_toNat_cond]
    have e2 : (v.toBitVec.signExtend 32).toNat = v.toBitVec.toNat := by
      rw [BitVec.signExtend_eq_setWidth_of_le _ (by decide)]
      rw [BitVec.toNat_setWidth]
      exact Nat.mod_eq_of_lt (by omega)
    rw [e2, if_pos (by omega)]
  omega
theorem byC_eq (w : Int64) {k : Nat} (hk : k < 8) : byC w k = byI w k := by
  have hA : ((w.toUInt64 >>> ((nI (8 * k)).toInt64.toUInt64 &&& Int64.toUInt64 63)).toInt64 &&& 255) = (w >>> ((nI (8 * k)).toInt64 &&& 63)) &&& 255 := by
    obtain rfl | rfl | rfl | rfl | rfl | rfl | rfl | rfl : k = 0 ∨ k = 1 ∨ k = 2 ∨ k = 3 ∨ k = 4 ∨ k = 5 ∨ k = 6 ∨ k = 7 := by omega
    · exact sh_s (n := 0) (by decide +kernel) (by decide +kernel) (by decide) w
    · exact sh_s (n := 8) (by decide +kernel) (by decide +kernel) (by decide) w
    · exact sh_s (n := 16) (by decide +kernel) (by decide +kernel) (by decide) w
    · exact sh_s (n := 24) (by decide +kernel) (by decide +kernel) (by decide) w
    · exact sh_s (n := 32) (by decide +kernel) (by decide +kernel) (by decide) w
    · exact sh_s (n := 40) (by decide +kernel) (by decide +kernel) (by decide) w
    · exact sh_s (n := 48) (by decide +kernel) (by decide +kernel) (by decide) w
    · exact sh_s (n := 56) (by decide +kernel) (by decide +kernel) (by decide) w
  unfold byC
  rw [hA]
  exact mod16 (byI_rng w k)
theorem byI_nar (w : Int64) (k : Nat) : narrow .char (.int (byI w k)) = .int (byI w k) := by
  show Value.int _ = _
  congr 1
  exact mod16 (byI_rng w k)
theorem byI_vp (w : Int64) (k : Nat) : vp_nar .char (byI w k) = byI w k := mod16 (byI_rng w k)
theorem i_nlt {a b : Int32} (h : ¬ a < b) : b ≤ a := by
  rw [Int32.le_iff_toInt_le]; rw [Int32.lt_iff_toInt_lt] at h; omega

/-- 'if z is v then P', hidden from omega -/
def ot_im (z v : Int) (P : Prop) : Prop := z = v → P
/-! pure facts on numbers of 32 bits -/
theorem bb_toNat (x : Int32) : (x.toBitVec.toNat : Int) = if 0 ≤ x.toInt then x.toInt else x.toInt + 4294967296 := by
  have h : x.toInt = x.toBitVec.toInt := rfl
  rw [h, BitVec.toInt_eq_toNat_cond]
  have := x.toBitVec.isLt
  split <;> split <;> omega
theorem bb_ofInt_toNat {z : Int} (h : 0 ≤ z ∧ z < 2147483648) : (Int32.ofInt z).toBitVec.toNat = z.toNat := by
  have h1 := bb_toNat (Int32.ofInt z)
  rw [ot_bm (by omega) (by omega), if_pos h.1] at h1
  omega
theorem bb_nI {n : Nat} (h : n < 2147483648) : (nI n).toInt = (n : Int) := nI_toInt (by omega)
theorem bb_mask8 (x : Int32) : (x &&& 255).toInt = x.toInt % 256 := by
  rw [pk_and x (m := 255) 8 (by decide), bb_nI (by have := Nat.mod_lt x.toBitVec.toNat (show 0 < 2 ^ 8 by decide); omega)]
  have h := bb_toNat x
  have e : ((x.toBitVec.toNat % 2 ^ 8 : Nat) : Int) = (x.toBitVec.toNat : Int) % 256 := by omega
  rw [e]
  split at h <;> omega
theorem bb_shr (x : Int) (k : Nat) (hk : k < 32) (hx : -2147483648 ≤ x ∧ x ≤ 2147483647) : ot_shr x (k : Int) = x / 2 ^ k := by
  unfold ot_shr
  rw [pk_shr (Int32.ofInt x) (Int32.ofInt (k : Int) &&& 31) k ?_, ot_bm hx.1 hx.2, Int.shiftRight_eq_div_pow]
  · rfl
  · rw [Int32.ofInt_eq_ofNat]
    have : ∀ k, k < 32 → ((Int32.ofNat k &&& 31).toBitVec.smod 32).toNat = k := by decide
    exact this k hk
theorem bb_byte_shr (x : Int) (k : Nat) (hk : k < 32) (hx : -2147483648 ≤ x ∧ x ≤ 2147483647) : ot_and (ot_shr x (k : Int)) 255 = (x / 2 ^ k) % 256 := by
  unfold ot_and
  rw [show Int32.ofInt 255 = 255 from rfl, bb_mask8]
  have e : (Int32.ofInt (ot_shr x (k : Int))).toInt = ot_shr x (k : Int) := by unfold ot_shr; rw [ot_asI]
  rw [e, bb_shr x k hk hx]
theorem bb_ushr (x : Int) (k : Nat) (hk : k < 32) (hx : -2147483648 ≤ x ∧ x ≤ 2147483647) : (Int32.ofInt (ot_ushr x (k : Int))).toBitVec.toNat = (Int32.ofInt x).toBitVec.toNat / 2 ^ k := by
  unfold ot_ushr
  rw [ot_asI, pk_ushr (Int32.ofInt x) (Int32.ofInt (k : Int)) k ?_]
  rw [Int32.ofInt_eq_ofNat]
  have : ∀ k, k < 32 → (((Int32.ofNat k).toUInt32 &&& Int32.toUInt32 31).toBitVec % 32).toNat = k := by decide
  exact this k hk
theorem bb_byte_ushr (x : Int) (k : Nat) (hk : k ≤ 24) (hx : -2147483648 ≤ x ∧ x ≤ 2147483647) : ot_and (ot_ushr x (k : Int)) 255 = (x / 2 ^ k) % 256 := by
  unfold ot_and
  rw [show Int32.ofInt 255 = 255 from rfl, pk_and _ (m := 255) 8 (by decide), bb_ushr x k (by omega) hx]
  rw [bb_nI (by have := Nat.mod_lt ((Int32.ofInt x).toBitVec.toNat / 2 ^ k) (show 0 < 2 ^ 8 by decide); omega)]
  have h := bb_toNat (Int32.ofInt x)
  rw [ot_bm hx.1 hx.2] at h
  have e1 : (((Int32.ofInt x).toBitVec.toNat / 2 ^ k % 2 ^ 8 : Nat) : Int) = ((Int32.ofInt x).toBitVec.toNat : Int) / 2 ^ k % 256 := by
    simp
  rw [e1, h]
  split
  · rfl
  · have e2 : (4294967296 : Int) = 2 ^ k * (2 ^ (24 - k) * 256) := by
      rw [← Int.mul_assoc, ← Int.pow_add, show k + (24 - k) = 24 by omega]; rfl
    rw [e2, Int.add_mul_ediv_left _ _ (by have : (0 : Int) < 2 ^ k := Int.pow_pos (by decide); omega), ← Int.mul_comm 256, Int.add_mul_emod_self_left]

theorem nt_test {m i : Nat} (hm : m < 2147483648) (hi : i < 31) : ot_and (ot_shr (m : Int) (i : Int)) 1 = if m.testBit i then 1 else 0 := by
  have := bt_test (x := (m : Int)) (j := (i : Int)) (by omega) (by omega)
  unfold bt at this
  rw [Int.toNat_natCast, Int.toNat_natCast] at this
  exact this
theorem bo_ushr (a k : Nat) (ha : a < 2147483648) (hk : k = 1 ∨ k = 2 ∨ k = 4 ∨ k = 8 ∨ k = 16) : ot_ushr (a : Int) (k : Int) = ((a >>> k : Nat) : Int) := by
  have h2 : a % 4294967296 = a := by omega
  have e : (((Int32.ofInt (a : Int)).toUInt32 >>> ((Int32.ofInt (k : Int)).toUInt32 &&& Int32.toUInt32 31)).toInt32) = nI (a >>> k) := by
    rw [bb_nat, bb_nat]
    apply Int32.toBitVec_inj.1
    rcases hk with rfl | rfl | rfl | rfl | rfl
    all_goals
      apply BitVec.eq_of_toNat_eq
      first
        | (show (BitVec.ofNat 32 a).toNat >>> 1 = (a >>> 1) % 4294967296
           rw [BitVec.toNat_ofNat, show 2 ^ 32 = 4294967296 from rfl, h2, Nat.mod_eq_of_lt (Nat.lt_of_le_of_lt (Nat.shiftRight_le a _) (by omega))]; done)
        | (show (BitVec.ofNat 32 a).toNat >>> 2 = (a >>> 2) % 4294967296
           rw [BitVec.toNat_ofNat, show 2 ^ 32 = 4294967296 from rfl, h2, Nat.mod_eq_of_lt (Nat.lt_of_le_of_lt (Nat.shiftRight_le a _) (by omega))]; done)
        | (show (BitVec.ofNat 32 a).toNat >>> 4 = (a >>> 4) % 4294967296
           rw [BitVec.toNat_ofNat, show 2 ^ 32 = 4294967296 from rfl, h2, Nat.mod_eq_of_lt (Nat.lt_of_le_of_lt (Nat.shiftRight_le a _) (by omega))]; done)
        | (show (BitVec.ofNat 32 a).toNat >>> 8 = (a >>> 8) % 4294967296
           rw [BitVec.toNat_ofNat, show 2 ^ 32 = 4294967296 from rfl, h2, Nat.mod_eq_of_lt (Nat.lt_of_le_of_lt (Nat.shiftRight_le a _) (by omega))]; done)
        | (show (BitVec.ofNat 32 a).toNat >>> 16 = (a >>> 16) % 4294967296
           rw [BitVec.toNat_ofNat, show 2 ^ 32 = 4294967296 from rfl, h2, Nat.mod_eq_of_lt (Nat.lt_of_le_of_lt (Nat.shiftRight_le a _) (by omega))]; done)
  unfold ot_ushr
  rw [e]
  exact bb_nI (Nat.lt_of_le_of_lt (Nat.shiftRight_le _ _) ha)
theorem bcI {n : Nat} (hn : n < 16777216) (s1 s2 s3 s4 s5 : Int) (h1 : s1 = (n : Int) - ot_and (ot_ushr (n : Int) 1) 1431655765) (h2 : s2 = ot_and s1 858993459 + ot_and (ot_ushr s1 2) 858993459) (h3 : s3 = ot_and (s2 + ot_ushr s2 4) 252645135) (h4 : s4 = s3 + ot_ushr s3 8) (h5 : s5 = s4 + ot_ushr s4 16) : ot_and s5 63 = (cnt n 24 : Int) := by
  have key := bcF_eq hn
  unfold bcF at key
  dsimp only at key
  rw [← key]
  have a1 : n >>> 1 &&& 1431655765 ≤ n := Nat.le_trans Nat.and_le_left (Nat.shiftRight_le _ _)
  have e1 : s1 = ((n - (n >>> 1 &&& 1431655765) : Nat) : Int) := by
    rw [h1, show (1 : Int) = ((1 : Nat) : Int) from rfl, bo_ushr n 1 (by omega) (Or.inl rfl), show (1431655765 : Int) = ((1431655765 : Nat) : Int) from rfl, bo_and _ _ (Nat.lt_of_le_of_lt (Nat.shiftRight_le _ _) (by omega))]
    omega
  have b1 : n - (n >>> 1 &&& 1431655765) < 16777216 := by omega
  generalize n - (n >>> 1 &&& 1431655765) = t1 at *
  have e2 : s2 = (((t1 &&& 858993459) + (t1 >>> 2 &&& 858993459) : Nat) : Int) := by
    rw [h2, e1, show (2 : Int) = ((2 : Nat) : Int) from rfl, bo_ushr t1 2 (by omega) (Or.inr (Or.inl rfl)), show (858993459 : Int) = ((858993459 : Nat) : Int) from rfl, bo_and _ _ (by omega), bo_and _ _ (Nat.lt_of_le_of_lt (Nat.shiftRight_le _ _) (by omega))]
    rfl
  have a2 : t1 &&& 858993459 ≤ t1 := Nat.and_le_left
  have a3 : t1 >>> 2 &&& 858993459 ≤ t1 := Nat.le_trans Nat.and_le_left (Nat.shiftRight_le _ _)
  have b2 : (t1 &&& 858993459) + (t1 >>> 2 &&& 858993459) < 33554432 := by omega
  generalize (t1 &&& 858993459) + (t1 >>> 2 &&& 858993459) = t2 at *
  have a4 : t2 >>> 4 ≤ t2 := Nat.shiftRight_le _ _
  have e3 : s3 = (((t2 + t2 >>> 4) &&& 252645135 : Nat) : Int) := by
    rw [h3, e2, show (4 : Int) = ((4 : Nat) : Int) from rfl, bo_ushr t2 4 (by omega) (Or.inr (Or.inr (Or.inl rfl))), show (252645135 : Int) = ((252645135 : Nat) : Int) from rfl, ← Int.natCast_add, bo_and _ _ (by omega)]
  have b3 : (t2 + t2 >>> 4) &&& 252645135 ≤ 252645135 := Nat.and_le_right
  generalize (t2 + t2 >>> 4) &&& 252645135 = t3 at *
  have a5 : t3 >>> 8 ≤ t3 := Nat.shiftRight_le _ _
  have e4 : s4 = ((t3 + t3 >>> 8 : Nat) : Int) := by
    rw [h4, e3, show (8 : Int) = ((8 : Nat) : Int) from rfl, bo_ushr t3 8 (by omega) (Or.inr (Or.inr (Or.inr (Or.inl rfl)))), ← Int.natCast_add]
  have b4 : t3 + t3 >>> 8 ≤ 505290270 := by omega
  generalize t3 + t3 >>> 8 = t4 at *
  have a6 : t4 >>> 16 ≤ t4 := Nat.shiftRight_le _ _
  have e5 : s5 = ((t4 + t4 >>> 16 : Nat) : Int) := by
    rw [h5, e4, show (16 : Int) = ((16 : Nat) : Int) from rfl, bo_ushr t4 16 (by omega) (Or.inr (Or.inr (Or.inr (Or.inr rfl)))), ← Int.natCast_add]
  rw [e5, show (63 : Int) = ((63 : Nat) : Int) from rfl, bo_and _ _ (by omega)]
/-- a row of cells holds a net -/
def gJ (F : Int → Int) (J : Nat → Nat) : Prop := ∀ p : Nat, p < 24 → F (p : Int) = (J p : Int)
theorem nt_or {a b : Nat} (ha : a < 16777216) (hb : b < 16777216) : ot_or (a : Int) (b : Int) = ((a ||| b : Nat) : Int) := bo_or a b (by omega) (by omega)
theorem nt_shl {k : Nat} (hk : k < 24) : ot_shl 1 (k : Int) = ((2 ^ k : Nat) : Int) := bo_shl1 k (by omega)
theorem nt_p {k : Nat} (hk : k < 24) : 2 ^ k < 16777216 := p_lt hk
theorem tb_one {m i : Nat} (h : (if m.testBit i then (1 : Int) else 0) = 1) : m.testBit i = true := by
  cases q : m.testBit i
  · rw [q] at h; simp at h
  · rfl
theorem tb_nil {m i : Nat} (h : (if m.testBit i then (1 : Int) else 0) ≠ 1) : m.testBit i = false := by
  cases q : m.testBit i
  · rfl
  · rw [q] at h; simp at h

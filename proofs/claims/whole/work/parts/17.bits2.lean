/-! operations on numbers that are not below 0, as operations on Nat -/
theorem bb_of (x : Int) (h : 0 ≤ x) : Int32.ofInt x = nI x.toNat := by
  show Int32.ofInt x = Int32.ofNat x.toNat
  rw [← Int32.ofInt_eq_ofNat, Int.toNat_of_nonneg h]
theorem bb_nat (n : Nat) : Int32.ofInt (n : Int) = nI n := Int32.ofInt_eq_ofNat
theorem bn_and (a b : Nat) : nI a &&& nI b = nI (a &&& b) := by
  apply Int32.toBitVec_inj.1
  show BitVec.ofNat 32 a &&& BitVec.ofNat 32 b = BitVec.ofNat 32 (a &&& b)
  apply BitVec.eq_of_getLsbD_eq
  intro i hi
  simp [hi]
theorem bn_or (a b : Nat) : nI a ||| nI b = nI (a ||| b) := by
  apply Int32.toBitVec_inj.1
  show BitVec.ofNat 32 a ||| BitVec.ofNat 32 b = BitVec.ofNat 32 (a ||| b)
  apply BitVec.eq_of_getLsbD_eq
  intro i hi
  simp [hi]
theorem bn_xor (a b : Nat) : nI a ^^^ nI b = nI (a ^^^ b) := by
  apply Int32.toBitVec_inj.1
  show BitVec.ofNat 32 a ^^^ BitVec.ofNat 32 b = BitVec.ofNat 32 (a ^^^ b)
  apply BitVec.eq_of_getLsbD_eq
  intro i hi
  simp [hi]
theorem bo_and (a b : Nat) (ha : a < 2147483648) : ot_and (a : Int) (b : Int) = ((a &&& b : Nat) : Int) := by
  unfold ot_and
  rw [bb_nat, bb_nat, bn_and, bb_nI (Nat.lt_of_le_of_lt Nat.and_le_left ha)]
theorem bo_or (a b : Nat) (ha : a < 2147483648) (hb : b < 2147483648) : ot_or (a : Int) (b : Int) = ((a ||| b : Nat) : Int) := by
  unfold ot_or
  rw [bb_nat, bb_nat, bn_or, bb_nI (Nat.or_lt_two_pow (n := 31) ha hb)]
theorem bo_xor (a b : Nat) (ha : a < 2147483648) (hb : b < 2147483648) : ot_xor (a : Int) (b : Int) = ((a ^^^ b : Nat) : Int) := by
  unfold ot_xor
  rw [bb_nat, bb_nat, bn_xor, bb_nI (Nat.xor_lt_two_pow (n := 31) ha hb)]
theorem bo_shr (a k : Nat) (ha : a < 2147483648) (hk : k < 32) : ot_shr (a : Int) (k : Int) = ((a >>> k : Nat) : Int) := by
  rw [bb_shr _ k hk (by omega), Nat.shiftRight_eq_div_pow]
  simp
theorem bo_shl1 (k : Nat) (hk : k < 31) : ot_shl 1 (k : Int) = ((2 ^ k : Nat) : Int) := by
  unfold ot_shl
  rw [show Int32.ofInt 1 = nI 1 from rfl, pk_shlN (n := 1) (Int32.ofInt (k : Int) &&& 31) k ?_ ?_, Nat.one_mul, bb_nI (Nat.pow_lt_pow_right (by decide) hk)]
  · rw [bb_nat]
    have : ∀ k, k < 32 → ((nI k &&& 31).toBitVec.smod 32).toNat = k := by decide
    exact this k (by omega)
  · rw [Nat.one_mul]
    exact Nat.lt_trans (Nat.pow_lt_pow_right (by decide) hk) (by decide)
theorem bo_div {x y : Int} (hx : 0 ≤ x ∧ x ≤ 2147483647) (hy : 0 < y ∧ y ≤ 2147483647) : ot_div x y = x / y := by
  unfold ot_div
  rw [bb_of x hx.1, bb_of y (by omega), pk_div (by omega) (by omega) (by omega), bb_nI (Nat.lt_of_le_of_lt (Nat.div_le_self _ _) (by omega))]
  rw [Int.natCast_ediv, Int.toNat_of_nonneg hx.1, Int.toNat_of_nonneg (by omega)]
theorem bo_rem {x y : Int} (hx : 0 ≤ x ∧ x ≤ 2147483647) (hy : 0 < y ∧ y ≤ 2147483647) : ot_rem x y = x % y := by
  unfold ot_rem
  have hlt := Nat.mod_lt x.toNat (show 0 < y.toNat by omega)
  rw [bb_of x hx.1, bb_of y (by omega), pk_rem (by omega) (by omega) (by omega), bb_nI (by omega)]
  rw [Int.natCast_emod, Int.toNat_of_nonneg hx.1, Int.toNat_of_nonneg (by omega)]
theorem bo_xor_pos {x y : Int} (hx : 0 ≤ x ∧ x ≤ 2147483647) (hy : 0 ≤ y ∧ y ≤ 2147483647) : 0 ≤ ot_xor x y ∧ ot_xor x y ≤ 2147483647 := by
  have h := bo_xor x.toNat y.toNat (by omega) (by omega)
  rw [Int.toNat_of_nonneg hx.1, Int.toNat_of_nonneg hy.1] at h
  have := Nat.xor_lt_two_pow (n := 31) (x := x.toNat) (y := y.toNat) (by omega) (by omega)
  omega
/-- two roads that meet -/
theorem tt_join {p : Program} {l : Launch} {e : Env} {R : Room} {s : State} {m : MethodId} {args : Array Value} {below : List Frame} {meth : Method} {c : Code} {g : ot_G} {nL cells slots : Nat} {Q : State → Prop} {L : ot_L} {μ : ot_M} {pc : Nat} {lv : List (Nat × ot_V)} {st : List ot_V} (pc' : Nat) (lv' : List (Nat × ot_V)) (μ' : ot_M) (st' : List ot_V) (k : ot_T p l e R s m args below meth c g nL cells slots Q L μ' pc' lv' st') (h : ot_T p l e R s m args below meth c g nL cells slots Q L μ' pc' lv' st' → ot_T p l e R s m args below meth c g nL cells slots Q L μ pc lv st) : ot_T p l e R s m args below meth c g nL cells slots Q L μ pc lv st := h k
theorem tt_join1 {p : Program} {l : Launch} {e : Env} {R : Room} {s : State} {m : MethodId} {args : Array Value} {below : List Frame} {meth : Method} {c : Code} {g : ot_G} {nL cells slots : Nat} {Q : State → Prop} {L : ot_L} {μ : ot_M} {pc : Nat} {lv : List (Nat × ot_V)} {st : List ot_V} (pc' : Nat) (st' : List ot_V) (k : ot_T p l e R s m args below meth c g nL cells slots Q L μ pc' lv st') (h : ot_T p l e R s m args below meth c g nL cells slots Q L μ pc' lv st' → ot_T p l e R s m args below meth c g nL cells slots Q L μ pc lv st) : ot_T p l e R s m args below meth c g nL cells slots Q L μ pc lv st := h k
theorem ot_uc_up {μ : ot_M} {k : Nat} {f : Int → Int} {i v : Int} : ot_up (ot_uc μ k f) k i v = ot_uc μ k (fun j => if j = i then v else f j) := by
  funext k' j
  by_cases h : k' = k <;> simp [ot_up, ot_uc, h]
theorem ot_uc_self {μ : ot_M} {k : Nat} : ot_uc μ k (μ k) = μ := by
  funext k'
  by_cases h : k' = k <;> simp [ot_uc, h]
theorem ot_uc_eq {μ : ot_M} {k : Nat} {f f' : Int → Int} (h : ∀ j, f j = f' j) : ot_uc μ k f = ot_uc μ k f' := by rw [show f = f' from funext h]
theorem ot_ucd {μ : ot_M} {k k' : Nat} {f : Int → Int} (h : k' ≠ k) : ot_uc μ k f k' = μ k' := by simp [ot_uc, h]
theorem ot_ucs {μ : ot_M} {k : Nat} {f : Int → Int} : ot_uc μ k f k = f := by simp [ot_uc]
theorem ot_uc_wr {μ : ot_M} {k : Nat} {old new : Int → Int} {i v : Int} (hi : 0 ≤ i) (h : v = new i) : ot_up (ot_uc μ k (wr i old new)) k i v = ot_uc μ k (wr (i + 1) old new) := by
  rw [ot_uc_up]
  exact congrArg (ot_uc μ k) (wr_step hi h.symm)
/-- a row filled as far as n -/
def ot_fl (f : Int → Int) (n v : Int) : Int → Int := fun j => if 0 ≤ j ∧ j < n then v else f j

/-! sets of small numbers as bits -/
def bt (x j : Int) : Bool := x.toNat.testBit j.toNat
theorem bt_test {x j : Int} (hx : 0 ≤ x ∧ x < 2147483648) (hj : 0 ≤ j ∧ j < 31) : ot_and (ot_shr x j) 1 = if bt x j then 1 else 0 := by
  have e1 := bo_shr x.toNat j.toNat (by omega) (by omega)
  rw [Int.toNat_of_nonneg hx.1, Int.toNat_of_nonneg hj.1] at e1
  rw [e1, show (1 : Int) = ((1 : Nat) : Int) from rfl, bo_and _ _ (Nat.lt_of_le_of_lt (Nat.shiftRight_le _ _) (by omega))]
  have e2 : x.toNat >>> j.toNat &&& 1 = if x.toNat.testBit j.toNat then 1 else 0 := by
    rw [Nat.and_one_is_mod, Nat.testBit]
    rw [Nat.and_comm, Nat.and_one_is_mod]
    have := Nat.mod_two_eq_zero_or_one (x.toNat >>> j.toNat)
    rcases this with h | h <;> simp [h]
  rw [e2]
  unfold bt
  split <;> rfl
theorem bt_shl {j : Int} (hj : 0 ≤ j ∧ j < 31) : ot_shl 1 j = ((2 ^ j.toNat : Nat) : Int) := by
  have := bo_shl1 j.toNat (by omega)
  rw [Int.toNat_of_nonneg hj.1] at this
  exact this
theorem pow_lt31 {j : Int} (hj : 0 ≤ j ∧ j < 31) : 2 ^ j.toNat < 2147483648 := Nat.pow_lt_pow_right (by decide) (show j.toNat < 31 by omega)
theorem bt_or_eq {x j : Int} (hx : 0 ≤ x ∧ x < 2147483648) (hj : 0 ≤ j ∧ j < 31) : ot_or x (ot_shl 1 j) = ((x.toNat ||| 2 ^ j.toNat : Nat) : Int) := by
  rw [bt_shl hj]
  have := bo_or x.toNat (2 ^ j.toNat) (by omega) (pow_lt31 hj)
  rw [Int.toNat_of_nonneg hx.1] at this
  exact this
theorem bt_or {x j i : Int} (hx : 0 ≤ x ∧ x < 2147483648) (hj : 0 ≤ j ∧ j < 31) (hi : 0 ≤ i) : bt (ot_or x (ot_shl 1 j)) i = (bt x i || decide (i = j)) := by
  rw [bt_or_eq hx hj]
  unfold bt
  rw [Int.toNat_natCast, Nat.testBit_or, Nat.testBit_two_pow]
  congr 1
  by_cases h : i = j
  · subst h; simp
  · have : j.toNat ≠ i.toNat := by omega
    simp [h, this]
theorem bt_or_rng {x j : Int} {n : Nat} (hn : n ≤ 31) (hx : 0 ≤ x ∧ x < 2 ^ n) (hj : 0 ≤ j ∧ j < n) : 0 ≤ ot_or x (ot_shl 1 j) ∧ ot_or x (ot_shl 1 j) < 2 ^ n := by
  have hp : (2 : Int) ^ n ≤ 2147483648 := by
    have := Nat.pow_le_pow_right (show 0 < 2 by decide) hn
    have e : ((2 ^ n : Nat) : Int) = (2 : Int) ^ n := by simp
    omega
  rw [bt_or_eq (by omega) (by omega)]
  have h1 : x.toNat < 2 ^ n := by
    have e : ((2 ^ n : Nat) : Int) = (2 : Int) ^ n := by simp
    omega
  have := Nat.or_lt_two_pow h1 (Nat.pow_lt_pow_right (show 1 < 2 by decide) (show j.toNat < n by omega))
  have e : ((2 ^ n : Nat) : Int) = (2 : Int) ^ n := by simp
  omega
theorem bt_zero (j : Int) : bt 0 j = false := by simp [bt]
/-- how many bits -/
def popc (x : Nat) : Nat → Nat
  | 0 => 0
  | n + 1 => x % 2 + popc (x / 2) n
theorem popc_zero : ∀ n, popc 0 n = 0
  | 0 => rfl
  | n + 1 => by show 0 % 2 + popc (0 / 2) n = 0; rw [Nat.zero_div, popc_zero n]
theorem popc_low : ∀ (n x : Nat), 0 < x → x < 2 ^ n → popc (x &&& (x - 1)) n + 1 = popc x n
  | 0, x, h1, h2 => by simp at h2; omega
  | n + 1, x, h1, h2 => by
    show (x &&& (x - 1)) % 2 + popc ((x &&& (x - 1)) / 2) n + 1 = x % 2 + popc (x / 2) n
    rw [Nat.and_div_two]
    rw [Nat.pow_succ] at h2
    rcases Nat.mod_two_eq_zero_or_one x with h | h
    · have e1 : (x - 1) / 2 = x / 2 - 1 := by omega
      have e2 : (x &&& (x - 1)) % 2 = 0 := by
        rw [Nat.and_mod_two_pow (n := 1), show x % 2 ^ 1 = 0 from h]; simp
      have ih := popc_low n (x / 2) (by omega) (by omega)
      rw [e1, e2, h]
      omega
    · have e1 : (x - 1) / 2 = x / 2 := by omega
      have e2 : (x &&& (x - 1)) % 2 = 0 := by
        rw [Nat.and_mod_two_pow (n := 1), show (x - 1) % 2 ^ 1 = 0 by omega]; simp
      rw [e1, e2, h, Nat.and_self]
      omega
theorem popc_sum : ∀ (n x : Nat), (popc x n : Int) = sumN (fun j => if x.testBit j.toNat then 1 else 0) n
  | 0, _ => rfl
  | n + 1, x => by
    have ih := popc_sum n (x / 2)
    have key : ∀ m : Nat, sumN (fun j => if x.testBit j.toNat then 1 else 0) (m + 1) = ((x % 2 : Nat) : Int) + sumN (fun j => if (x / 2).testBit j.toNat then 1 else 0) m := by
      intro m
      induction m with
      | zero =>
        show 0 + (if x.testBit ((0 : Nat) : Int).toNat then 1 else 0) = ((x % 2 : Nat) : Int) + 0
        rcases Nat.mod_two_eq_zero_or_one x with h | h <;> simp [h]
      | succ m ihm =>
        rw [sumN_succ, ihm, sumN_succ]
        have : x.testBit ((m + 1 : Nat) : Int).toNat = (x / 2).testBit ((m : Nat) : Int).toNat := by
          rw [Int.toNat_natCast, Int.toNat_natCast, Nat.testBit_succ]
        rw [this]
        omega
    show ((x % 2 + popc (x / 2) n : Nat) : Int) = _
    rw [key n, ← ih]
    omega
def pop (x : Int) : Int := sumN (fun j => if bt x j then 1 else 0) 31
theorem pop_popc {x : Int} : pop x = (popc x.toNat 31 : Int) := (popc_sum 31 x.toNat).symm
theorem pop_low {x : Int} (h : 0 < x ∧ x < 2147483648) : 0 ≤ ot_and x (x - 1) ∧ ot_and x (x - 1) < x ∧ pop (ot_and x (x - 1)) + 1 = pop x := by
  have e := bo_and x.toNat (x.toNat - 1) (by omega)
  rw [show ((x.toNat - 1 : Nat) : Int) = x - 1 by omega, Int.toNat_of_nonneg (by omega)] at e
  have hl := popc_low 31 x.toNat (by omega) (by omega)
  have hle : x.toNat &&& (x.toNat - 1) ≤ x.toNat - 1 := Nat.and_le_right
  rw [e, pop_popc, pop_popc, Int.toNat_natCast]
  omega
theorem pop_0 : pop 0 = 0 := by rw [pop_popc]; show ((popc 0 31 : Nat) : Int) = 0; rw [popc_zero]; rfl

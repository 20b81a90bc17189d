/-! the text's tokens -/
def ltB (c : Int) : Bool := decide ((97 ≤ c ∧ c ≤ 122) ∨ (65 ≤ c ∧ c ≤ 90))
def dgB (c : Int) : Bool := decide (48 ≤ c ∧ c ≤ 57)
def blB (c : Int) : Bool := decide (c = 32 ∨ c = 10)
def rnN (P : Int → Bool) (T : Nat → Int) (n i : Nat) : Nat := lsN (fun k => decide (i ≤ k) && (decide (n ≤ k) || !P (T k))) (n + 1)
theorem rnN_eq {P : Int → Bool} {T : Nat → Int} {n i k : Nat} (hik : i ≤ k) (hkn : k ≤ n) (h1 : ∀ j, i ≤ j → j < k → P (T j) = true) (h2 : k = n ∨ P (T k) = false) : rnN P T n i = k := by
  refine lsN_eq (b := k) ?_ (fun j hj => ?_) (n + 1) (by omega)
  · rw [Bool.and_eq_true, Bool.or_eq_true]
    refine ⟨decide_eq_true hik, ?_⟩
    rcases h2 with h | h
    · exact .inl (decide_eq_true (by omega))
    · right; rw [h]; rfl
  · rw [Bool.eq_false_iff]
    intro w
    rw [Bool.and_eq_true, Bool.or_eq_true, decide_eq_true_eq, decide_eq_true_eq] at w
    rcases w.2 with q | q
    · omega
    · rw [h1 j w.1 hj] at q; cases q
theorem rnN_ok {P : Int → Bool} {T : Nat → Int} {n i : Nat} (hi : i ≤ n) : i ≤ rnN P T n i ∧ rnN P T n i ≤ n ∧ (∀ j, i ≤ j → j < rnN P T n i → P (T j) = true) ∧ (rnN P T n i = n ∨ P (T (rnN P T n i)) = false) := by
  have hs := lsN_spec (P := fun k => decide (i ≤ k) && (decide (n ≤ k) || !P (T k))) (n := n + 1) (b := n) (by omega) (by simp [hi])
  have h2 := hs.2.1
  rw [Bool.and_eq_true, Bool.or_eq_true, decide_eq_true_eq, decide_eq_true_eq] at h2
  refine ⟨h2.1, hs.1, fun j h1 hj => ?_, ?_⟩
  · have := hs.2.2 j hj
    rw [decide_eq_true h1, Bool.true_and, Bool.or_eq_false_iff] at this
    simpa using this.2
  · have hle := hs.1
    rcases h2.2 with q | q
    · exact .inl (Nat.le_antisymm hs.1 q)
    · right
      show P (T (lsN _ _)) = false
      cases e : P (T (lsN (fun k => decide (i ≤ k) && (decide (n ≤ k) || !P (T k))) (n + 1)))
      · rfl
      · rw [e] at q; cases q
theorem rnN_step {P : Int → Bool} {T : Nat → Int} {n i : Nat} (hi : i < n) (h : P (T i) = true) : rnN P T n i = rnN P T n (i + 1) := by
  obtain ⟨h1, h2, h3, h4⟩ := rnN_ok (P := P) (T := T) (n := n) (i := i + 1) (by omega)
  refine rnN_eq (by omega) h2 (fun j j1 j2 => ?_) h4
  by_cases e : j = i
  · rw [e]; exact h
  · exact h3 j (by omega) j2
theorem rnN_stop {P : Int → Bool} {T : Nat → Int} {n i : Nat} (hi : i ≤ n) (h : i = n ∨ P (T i) = false) : rnN P T n i = i := rnN_eq (Nat.le_refl _) hi (fun j j1 j2 => by omega) h
/-- where a token ends that begins at p -/
def enN (T : Nat → Int) (n p : Nat) : Nat := if ltB (T p) then rnN ltB T n (p + 1) else if dgB (T p) then rnN dgB T n (p + 1) else p + 1
theorem enN_ok {T : Nat → Int} {n p : Nat} (hp : p < n) : p < enN T n p ∧ enN T n p ≤ n := by
  unfold enN
  have h1 := rnN_ok (P := ltB) (T := T) (n := n) (i := p + 1) (by omega)
  have h2 := rnN_ok (P := dgB) (T := T) (n := n) (i := p + 1) (by omega)
  split
  · omega
  · split <;> omega
def skN (T : Nat → Int) (n i : Nat) : Nat := rnN blB T n i
def psN (T : Nat → Int) (n : Nat) : Nat → Nat
  | 0 => skN T n 0
  | k + 1 => if psN T n k < n then skN T n (enN T n (psN T n k)) else n
theorem psN_s (T : Nat → Int) (n k : Nat) : psN T n (k + 1) = if psN T n k < n then skN T n (enN T n (psN T n k)) else n := rfl
theorem psN_le {T : Nat → Int} {n : Nat} : ∀ k, psN T n k ≤ n
  | 0 => (rnN_ok (Nat.zero_le _)).2.1
  | k + 1 => by
    rw [psN_s]
    split
    · rename_i h
      exact (rnN_ok (enN_ok h).2).2.1
    · exact Nat.le_refl _
theorem psN_grow {T : Nat → Int} {n k : Nat} (h : psN T n k < n) : psN T n k < psN T n (k + 1) := by
  rw [psN_s, if_pos h]
  have h1 := enN_ok (T := T) h
  have h2 := rnN_ok (P := blB) (T := T) h1.2
  show _ < rnN blB T n _
  omega
theorem psN_ge {T : Nat → Int} {n : Nat} : ∀ k, (∀ j, j < k → psN T n j < n) → k ≤ psN T n k
  | 0, _ => Nat.zero_le _
  | k + 1, h => by
    have ih := psN_ge k (fun j hj => h j (by omega))
    have := psN_grow (h k (by omega))
    omega
theorem psN_bl {T : Nat → Int} {n : Nat} (k : Nat) (h : psN T n k < n) : blB (T (psN T n k)) = false := by
  have key : ∀ i, i ≤ n → skN T n i < n → blB (T (skN T n i)) = false := by
    intro i hi hlt
    rcases (rnN_ok (P := blB) (T := T) hi).2.2.2 with q | q
    · exact absurd q (by show ¬ skN T n i = n; omega)
    · exact q
  cases k with
  | zero => exact key 0 (Nat.zero_le _) h
  | succ k =>
    rw [psN_s] at h ⊢
    split
    · rename_i w
      rw [if_pos w] at h
      exact key _ (enN_ok w).2 h
    · rename_i w
      rw [if_neg w] at h
      omega
/-- there is a last one -/
theorem psN_end (T : Nat → Int) (n : Nat) : ∃ K, K ≤ n ∧ psN T n K = n ∧ ∀ k, k < K → psN T n k < n := by
  have h0 : psN T n (n + 1) = n := by
    apply Classical.byContradiction
    intro hne
    have hall : ∀ j, j < n + 1 → psN T n j < n := by
      intro j hj
      apply Classical.byContradiction
      intro w
      have hj2 : psN T n j = n := Nat.le_antisymm (psN_le j) (by omega)
      have : ∀ d, psN T n (j + d) = n := by
        intro d
        induction d with
        | zero => exact hj2
        | succ d ih =>
          show psN T n (j + d + 1) = n
          rw [psN_s, if_neg (by omega)]
      have := this (n + 1 - j)
      rw [show j + (n + 1 - j) = n + 1 by omega] at this
      exact hne this
    have := psN_ge (n + 1) hall
    have := psN_le (T := T) (n := n) (n + 1)
    omega
  obtain ⟨K, k1, k2, k3⟩ := least_ex (P := fun k => decide (psN T n k = n)) (n + 2) (n + 1) (by omega) (decide_eq_true h0)
  have h3 : ∀ k, k < K → psN T n k < n := by
    intro k hk
    have := of_decide_eq_false (k3 k hk)
    have := psN_le (T := T) (n := n) k
    omega
  have h4 := psN_ge K h3
  have h5 := of_decide_eq_true k2
  exact ⟨K, by omega, h5, h3⟩
/-- the words, each in seven signs -/
def wdL : List Int := [109, 97, 121, 32, 32, 32, 32, 98, 97, 114, 32, 32, 32, 32, 119, 104, 101, 110, 32, 32, 32, 111, 114, 32, 32, 32, 32, 32, 97, 110, 100, 32, 32, 32, 32, 110, 111, 116, 32, 32, 32, 32, 102, 114, 111, 109, 32, 32, 32, 116, 111, 32, 32, 32, 32, 32, 108, 101, 110, 103, 116, 104, 32, 117, 115, 101, 100, 32, 32, 32, 116, 104, 114, 101, 97, 100, 32, 119, 111, 117, 110, 100, 32, 32, 116, 117, 114, 110, 32, 32, 32, 115, 104, 97, 100, 101, 32, 32]
def sgL : List Int := [59, 43, 45, 42, 47, 40, 41, 60, 61, 62]
def wdC (w i : Nat) : Int := wdL.getD (7 * w + i) 0
def wdE (T : Nat → Int) (a b w : Nat) : Bool := decide (b - a < 7) && ((List.range (b - a)).all (fun i => decide (wdC w i = T (a + i))) && decide (wdC w (b - a) = 32))
theorem wdE_iff {T : Nat → Int} {a b w : Nat} : wdE T a b w = true ↔ b - a < 7 ∧ (∀ i, i < b - a → wdC w i = T (a + i)) ∧ wdC w (b - a) = 32 := by
  unfold wdE
  rw [Bool.and_eq_true, Bool.and_eq_true, decide_eq_true_eq, decide_eq_true_eq, List.all_eq_true]
  constructor
  · rintro ⟨h1, h2, h3⟩
    exact ⟨h1, fun i hi => of_decide_eq_true (h2 i (List.mem_range.mpr hi)), h3⟩
  · rintro ⟨h1, h2, h3⟩
    exact ⟨h1, fun i hi => decide_eq_true (h2 i (List.mem_range.mp hi)), h3⟩
def kwN (T : Nat → Int) (a b : Nat) : Nat := lsN (wdE T a b) 14
def dvN (T : Nat → Int) (a : Nat) : Nat → Int
  | 0 => 0
  | k + 1 => dvN T a k * 10 + T (a + k) - 48
/-- a token's kind: a word's number, 20 a number, 21 the end, 22 none, a sign itself -/
def tkN (T : Nat → Int) (n p : Nat) : Int := if n ≤ p then 21 else if ltB (T p) then (if kwN T p (enN T n p) < 14 then (kwN T p (enN T n p) : Int) else 22) else if dgB (T p) then (if enN T n p - p ≤ 4 then 20 else 22) else if sgL.contains (T p) then T p else 22
def vlN (T : Nat → Int) (n p : Nat) : Int := dvN T p (min (enN T n p - p) 4)
theorem dvN_rng {T : Nat → Int} {a : Nat} : ∀ k, k ≤ 4 → (∀ i, i < k → 48 ≤ T (a + i) ∧ T (a + i) ≤ 57) → 0 ≤ dvN T a k ∧ dvN T a k < (10 ^ k : Nat)
  | 0, _, _ => by show 0 ≤ (0 : Int) ∧ (0 : Int) < _; decide
  | k + 1, hk, h => by
    have ih := dvN_rng k (by omega) (fun i hi => h i (by omega))
    have h1 := h k (by omega)
    show 0 ≤ dvN T a k * 10 + T (a + k) - 48 ∧ dvN T a k * 10 + T (a + k) - 48 < ((10 ^ (k + 1) : Nat) : Int)
    rw [Nat.pow_succ]
    omega

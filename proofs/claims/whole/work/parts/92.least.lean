/-- least lengths that join odd pins in pairs -/
def mnV (D : Nat → Nat → Int) (T : Nat → Int) (c a : Nat) : Nat → Int
  | 0 => -1
  | j + 1 => if a < j ∧ c.testBit j = true then (if mnV D T c a j = -1 ∨ D a j + T (c ^^^ 2 ^ a ^^^ 2 ^ j) < mnV D T c a j then D a j + T (c ^^^ 2 ^ a ^^^ 2 ^ j) else mnV D T c a j) else mnV D T c a j
theorem mnV_y {D : Nat → Nat → Int} {T : Nat → Int} {c a j : Nat} (h : a < j ∧ c.testBit j = true) : mnV D T c a (j + 1) = if mnV D T c a j = -1 ∨ D a j + T (c ^^^ 2 ^ a ^^^ 2 ^ j) < mnV D T c a j then D a j + T (c ^^^ 2 ^ a ^^^ 2 ^ j) else mnV D T c a j := if_pos h
theorem mnV_n {D : Nat → Nat → Int} {T : Nat → Int} {c a j : Nat} (h : ¬ (a < j ∧ c.testBit j = true)) : mnV D T c a (j + 1) = mnV D T c a j := if_neg h
theorem mnV_low {D : Nat → Nat → Int} {T : Nat → Int} {c a : Nat} : ∀ k, k ≤ a + 1 → mnV D T c a k = -1
  | 0, _ => rfl
  | k + 1, h => by
    rw [mnV_n (by omega)]
    exact mnV_low k (by omega)
theorem mnV_congr {D : Nat → Nat → Int} {T T2 : Nat → Int} {c a : Nat} : ∀ n, (∀ j, a < j → j < n → c.testBit j = true → T (c ^^^ 2 ^ a ^^^ 2 ^ j) = T2 (c ^^^ 2 ^ a ^^^ 2 ^ j)) → mnV D T c a n = mnV D T2 c a n
  | 0, _ => rfl
  | n + 1, h => by
    have ih := mnV_congr (D := D) n (fun j h1 h2 => h j h1 (by omega))
    by_cases w : a < n ∧ c.testBit n = true
    · rw [mnV_y w, mnV_y w, ih, h n w.1 (by omega) w.2]
    · rw [mnV_n w, mnV_n w, ih]
def tb (D : Nat → Nat → Int) (n : Nat) : Nat → Nat → Int
  | 0, _ => 0
  | k + 1, c => if c = k then (if k = 0 then 0 else mnV D (tb D n k) k (lsN (fun u => k.testBit u) n) n) else tb D n k c
def tT (D : Nat → Nat → Int) (n c : Nat) : Int := tb D n (c + 1) c
theorem tb_stay {D : Nat → Nat → Int} {n c : Nat} : ∀ k, c < k → tb D n k c = tT D n c
  | 0, h => by omega
  | k + 1, h => by
    by_cases e : c = k
    · subst e; rfl
    · show (if c = k then _ else tb D n k c) = _
      rw [if_neg e, tb_stay k (by omega)]
theorem two_lt {c a j : Nat} (haj : a < j) (ha : c.testBit a = true) (hj : c.testBit j = true) : c ^^^ 2 ^ a ^^^ 2 ^ j < c := by
  have h1 : c &&& (c ^^^ 2 ^ a ^^^ 2 ^ j) = c ^^^ 2 ^ a ^^^ 2 ^ j := by
    refine Nat.eq_of_testBit_eq (fun i => ?_)
    rw [Nat.testBit_and, tb_x, tb_x]
    by_cases e1 : j = i
    · subst e1; rw [if_pos rfl, if_neg (by omega), hj]; rfl
    · rw [if_neg e1]
      by_cases e2 : a = i
      · subst e2; rw [if_pos rfl, ha]; rfl
      · rw [if_neg e2]; cases c.testBit i <;> rfl
  have h2 : c ^^^ 2 ^ a ^^^ 2 ^ j ≤ c := by rw [← h1]; exact Nat.and_le_left
  have h3 : c ^^^ 2 ^ a ^^^ 2 ^ j ≠ c := by
    intro e
    have : (c ^^^ 2 ^ a ^^^ 2 ^ j).testBit j = c.testBit j := by rw [e]
    rw [tb_x, if_pos rfl, tb_x, if_neg (by omega), hj] at this
    cases this
  omega
theorem lsN_lt {P : Nat → Bool} : ∀ n, lsN P n < n → P (lsN P n) = true
  | 0, h => by omega
  | n + 1, h => by
    have e : lsN P (n + 1) = if lsN P n < n then lsN P n else if P n then n else n + 1 := rfl
    by_cases w : lsN P n < n
    · rw [if_pos w] at e; rw [e]; exact lsN_lt n w
    · rw [if_neg w] at e
      cases q : P n
      · rw [q] at e; simp at e; omega
      · rw [q] at e; simp at e; rw [e]; exact q
theorem tT_zero (D : Nat → Nat → Int) (n : Nat) : tT D n 0 = 0 := rfl
theorem tT_eq {D : Nat → Nat → Int} {n c : Nat} (hc : c ≠ 0) : tT D n c = mnV D (tT D n) c (lsN (fun u => c.testBit u) n) n := by
  have : tT D n c = mnV D (tb D n c) c (lsN (fun u => c.testBit u) n) n := by
    show (if c = c then (if c = 0 then 0 else mnV D (tb D n c) c (lsN (fun u => c.testBit u) n) n) else tb D n c c) = _
    rw [if_pos rfl, if_neg hc]
  rw [this]
  exact mnV_congr n (fun j h1 h2 h3 => tb_stay c (two_lt h1 (lsN_lt (P := fun u => c.testBit u) n (by omega)) h3))
theorem mnV_ok {D : Nat → Nat → Int} {T : Nat → Int} {c a : Nat} {Bd : Int} (hD : ∀ i j, 0 ≤ D i j ∧ D i j ≤ 8) : ∀ n, (∀ j, a < j → j < n → c.testBit j = true → 0 ≤ T (c ^^^ 2 ^ a ^^^ 2 ^ j) ∧ T (c ^^^ 2 ^ a ^^^ 2 ^ j) ≤ Bd) → (mnV D T c a n = -1 ∧ ∀ j, a < j → j < n → c.testBit j = false) ∨ (0 ≤ mnV D T c a n ∧ mnV D T c a n ≤ Bd + 8)
  | 0, _ => .inl ⟨rfl, fun j _ h => by omega⟩
  | n + 1, h => by
    have ih := mnV_ok hD n (fun j h1 h2 => h j h1 (by omega))
    by_cases w : a < n ∧ c.testBit n = true
    · right
      have h1 := h n w.1 (by omega) w.2
      have h2 := hD a n
      rw [mnV_y w]
      split
      · omega
      · rename_i q
        rcases ih with ih | ih
        · exact absurd (Or.inl ih.1) q
        · omega
    · rw [mnV_n w]
      rcases ih with ih | ih
      · refine .inl ⟨ih.1, fun j h1 h2 => ?_⟩
        by_cases e : j = n
        · subst e
          rw [Bool.eq_false_iff]
          exact fun q => w ⟨h1, q⟩
        · exact ih.2 j h1 (by omega)
      · exact .inr ih
theorem cnt_two_del {c a j n : Nat} (haj : a < j) (hj : j < n) (h1 : c.testBit a = true) (h2 : c.testBit j = true) : cnt (c ^^^ 2 ^ a ^^^ 2 ^ j) n + 2 = cnt c n := by
  have e1 := cnt_del (m := c) (k := a) (n := n) (by omega) h1
  have e2 := cnt_del (m := c ^^^ 2 ^ a) (k := j) (n := n) hj (by rw [tb_x, if_neg (by omega)]; exact h2)
  omega
theorem lt_del {c a j n : Nat} (hc : c < 2 ^ n) (ha : a < n) (hj : j < n) : c ^^^ 2 ^ a ^^^ 2 ^ j < 2 ^ n :=
  Nat.xor_lt_two_pow (Nat.xor_lt_two_pow hc (Nat.pow_lt_pow_right (by decide) ha)) (Nat.pow_lt_pow_right (by decide) hj)
theorem low_of {c n : Nat} (hc : c < 2 ^ n) (h0 : c ≠ 0) : lsN (fun u => c.testBit u) n < n ∧ c.testBit (lsN (fun u => c.testBit u) n) = true ∧ ∀ i, i < lsN (fun u => c.testBit u) n → c.testBit i = false := by
  obtain ⟨i, hi⟩ := tb_ne.mp h0
  have hin := tb_lo hc hi
  have := lsN_spec (P := fun u => c.testBit u) hin hi
  exact ⟨by omega, this.2⟩
theorem more_than_low {c n a : Nat} (hev : cnt c n % 2 = 0) (ha : a < n) (hb : c.testBit a = true) (hl : ∀ i, i < a → c.testBit i = false) : ∃ j, a < j ∧ j < n ∧ c.testBit j = true := by
  have h1 := cnt_some n ha hb
  have h2 := cnt_del ha hb
  obtain ⟨j, h3, h4⟩ := cnt_pos n (show 0 < cnt (c ^^^ 2 ^ a) n by omega)
  rw [tb_x] at h4
  have hne : a ≠ j := by
    intro e
    rw [if_pos e, ← e, hb] at h4
    cases h4
  rw [if_neg hne] at h4
  refine ⟨j, ?_, h3, h4⟩
  rcases Nat.lt_or_gt_of_ne hne with w | w
  · exact w
  · rw [hl j w] at h4; cases h4
theorem tT_ok {D : Nat → Nat → Int} {n : Nat} (hD : ∀ i j, 0 ≤ D i j ∧ D i j ≤ 8) : ∀ k c, c < k → c < 2 ^ n → cnt c n % 2 = 0 → 0 ≤ tT D n c ∧ tT D n c ≤ 8 * (cnt c n : Int)
  | 0, _, h, _, _ => by omega
  | k + 1, c, h, hc, hev => by
    by_cases h0 : c = 0
    · subst h0; rw [tT_zero, cnt_zero]; omega
    · rw [tT_eq h0]
      obtain ⟨l1, l2, l3⟩ := low_of hc h0
      generalize lsN (fun u => c.testBit u) n = a at *
      have hT : ∀ j, a < j → j < n → c.testBit j = true → 0 ≤ tT D n (c ^^^ 2 ^ a ^^^ 2 ^ j) ∧ tT D n (c ^^^ 2 ^ a ^^^ 2 ^ j) ≤ 8 * (cnt c n : Int) - 16 := by
        intro j h1 h2 h3
        have e := cnt_two_del h1 h2 l2 h3
        have := tT_ok hD k (c ^^^ 2 ^ a ^^^ 2 ^ j) (by have := two_lt h1 l2 h3; omega) (lt_del hc l1 h2) (by omega)
        omega
      rcases mnV_ok (T := tT D n) hD n hT with q | q
      · obtain ⟨j, h1, h2, h3⟩ := more_than_low hev l1 l2 l3
        rw [q.2 j h1 h2] at h3
        cases h3
      · omega
/-- the same with a number that is far -/
def rnV (D : Nat → Nat → Int) (T : Nat → Int) (c a : Nat) : Nat → Int
  | 0 => 1000000000
  | j + 1 => if a < j ∧ c.testBit j = true then (if T (c ^^^ 2 ^ a ^^^ 2 ^ j) + D a j < rnV D T c a j then T (c ^^^ 2 ^ a ^^^ 2 ^ j) + D a j else rnV D T c a j) else rnV D T c a j
theorem rnV_y {D : Nat → Nat → Int} {T : Nat → Int} {c a j : Nat} (h : a < j ∧ c.testBit j = true) : rnV D T c a (j + 1) = if T (c ^^^ 2 ^ a ^^^ 2 ^ j) + D a j < rnV D T c a j then T (c ^^^ 2 ^ a ^^^ 2 ^ j) + D a j else rnV D T c a j := if_pos h
theorem rnV_n {D : Nat → Nat → Int} {T : Nat → Int} {c a j : Nat} (h : ¬ (a < j ∧ c.testBit j = true)) : rnV D T c a (j + 1) = rnV D T c a j := if_neg h
theorem rnV_low {D : Nat → Nat → Int} {T : Nat → Int} {c a : Nat} : ∀ k, k ≤ a + 1 → rnV D T c a k = 1000000000
  | 0, _ => rfl
  | k + 1, h => by
    rw [rnV_n (by omega)]
    exact rnV_low k (by omega)
theorem rnV_far {D : Nat → Nat → Int} {T : Nat → Int} {c a : Nat} (hD : ∀ i j, 0 ≤ D i j ∧ D i j ≤ 8) : ∀ n, (∀ j, a < j → j < n → c.testBit j = true → T (c ^^^ 2 ^ a ^^^ 2 ^ j) = 1000000000) → rnV D T c a n = 1000000000
  | 0, _ => rfl
  | n + 1, h => by
    have ih := rnV_far hD n (fun j h1 h2 => h j h1 (by omega))
    by_cases w : a < n ∧ c.testBit n = true
    · have := hD a n
      rw [rnV_y w, ih, h n w.1 (by omega) w.2, if_neg (by omega)]
    · rw [rnV_n w, ih]
theorem rnV_mn {D : Nat → Nat → Int} {T : Nat → Int} {c a : Nat} (hD : ∀ i j, 0 ≤ D i j ∧ D i j ≤ 8) : ∀ n, (∀ j, a < j → j < n → c.testBit j = true → 0 ≤ T (c ^^^ 2 ^ a ^^^ 2 ^ j) ∧ T (c ^^^ 2 ^ a ^^^ 2 ^ j) ≤ 1000) → rnV D T c a n = if mnV D T c a n = -1 then 1000000000 else mnV D T c a n
  | 0, _ => rfl
  | n + 1, h => by
    have ih := rnV_mn hD n (fun j h1 h2 => h j h1 (by omega))
    have hk := mnV_ok (T := T) (c := c) (a := a) hD n (fun j h1 h2 => h j h1 (by omega))
    by_cases w : a < n ∧ c.testBit n = true
    · have h1 := h n w.1 (by omega) w.2
      have h2 := hD a n
      rw [rnV_y w, mnV_y w, ih]
      rcases hk with hk | hk
      · rw [hk.1]
        simp only [if_true, true_or]
        rw [if_pos (by omega), if_neg (by omega), Int.add_comm]
      · rw [if_neg (show ¬ mnV D T c a n = -1 by omega)]
        by_cases q : D a n + T (c ^^^ 2 ^ a ^^^ 2 ^ n) < mnV D T c a n
        · rw [if_pos (by omega), if_pos (Or.inr q), if_neg (by omega), Int.add_comm]
        · have q2 : ¬ (mnV D T c a n = -1 ∨ D a n + T (c ^^^ 2 ^ a ^^^ 2 ^ n) < mnV D T c a n) := by omega
          rw [if_neg (by omega), if_neg q2, if_neg (by omega)]
    · rw [rnV_n w, mnV_n w, ih]
theorem rnV_congr {D : Nat → Nat → Int} {T T2 : Nat → Int} {c a : Nat} : ∀ n, (∀ j, a < j → j < n → c.testBit j = true → T (c ^^^ 2 ^ a ^^^ 2 ^ j) = T2 (c ^^^ 2 ^ a ^^^ 2 ^ j)) → rnV D T c a n = rnV D T2 c a n
  | 0, _ => rfl
  | n + 1, h => by
    have ih := rnV_congr (D := D) n (fun j h1 h2 => h j h1 (by omega))
    by_cases w : a < n ∧ c.testBit n = true
    · rw [rnV_y w, rnV_y w, ih, h n w.1 (by omega) w.2]
    · rw [rnV_n w, rnV_n w, ih]
def tR (D : Nat → Nat → Int) (n c : Nat) : Int := if cnt c n % 2 = 0 then tT D n c else 1000000000
theorem tR_eq {D : Nat → Nat → Int} {n c : Nat} (hD : ∀ i j, 0 ≤ D i j ∧ D i j ≤ 8) (hn : n ≤ 12) (hc : c < 2 ^ n) (h0 : c ≠ 0) : tR D n c = rnV D (tR D n) c (lsN (fun u => c.testBit u) n) n := by
  obtain ⟨l1, l2, l3⟩ := low_of hc h0
  have hq := tT_eq (D := D) (n := n) h0
  generalize lsN (fun u => c.testBit u) n = a at *
  unfold tR
  by_cases hev : cnt c n % 2 = 0
  · rw [if_pos hev]
    have hc2 : ∀ j, a < j → j < n → c.testBit j = true → (fun c => if cnt c n % 2 = 0 then tT D n c else 1000000000) (c ^^^ 2 ^ a ^^^ 2 ^ j) = tT D n (c ^^^ 2 ^ a ^^^ 2 ^ j) := by
      intro j h1 h2 h3
      have e := cnt_two_del h1 h2 l2 h3
      show (if cnt (c ^^^ 2 ^ a ^^^ 2 ^ j) n % 2 = 0 then _ else _) = _
      rw [if_pos (by omega)]
    rw [rnV_congr n hc2]
    have hT : ∀ j, a < j → j < n → c.testBit j = true → 0 ≤ tT D n (c ^^^ 2 ^ a ^^^ 2 ^ j) ∧ tT D n (c ^^^ 2 ^ a ^^^ 2 ^ j) ≤ 1000 := by
      intro j h1 h2 h3
      have e := cnt_two_del h1 h2 l2 h3
      have h4 := tT_ok hD _ (c ^^^ 2 ^ a ^^^ 2 ^ j) (Nat.lt_succ_self _) (lt_del hc l1 h2) (by omega)
      have h5 := cnt_le (c ^^^ 2 ^ a ^^^ 2 ^ j) n
      omega
    rw [rnV_mn hD n hT, ← hq, if_neg]
    have := (tT_ok hD _ c (Nat.lt_succ_self _) hc hev).1
    omega
  · rw [if_neg hev]
    refine (rnV_far hD n (fun j h1 h2 h3 => ?_)).symm
    have e := cnt_two_del h1 h2 l2 h3
    show (if cnt (c ^^^ 2 ^ a ^^^ 2 ^ j) n % 2 = 0 then _ else _) = _
    rw [if_neg (by omega)]
/-- the least of all but two -/
def isS (D : Nat → Nat → Int) (n : Nat) (v : Int) : Prop := (∃ i j, i < j ∧ j < n ∧ v = tT D n ((2 ^ n - 1) ^^^ 2 ^ i ^^^ 2 ^ j)) ∧ ∀ i j, i < j → j < n → v ≤ tT D n ((2 ^ n - 1) ^^^ 2 ^ i ^^^ 2 ^ j)
theorem isS_one {D : Nat → Nat → Int} {n : Nat} {v w : Int} (h1 : isS D n v) (h2 : isS D n w) : v = w := by
  obtain ⟨⟨i, j, a1, a2, a3⟩, a4⟩ := h1
  obtain ⟨⟨i2, j2, b1, b2, b3⟩, b4⟩ := h2
  have := a4 i2 j2 b1 b2
  have := b4 i j a1 a2
  omega
theorem all_two {n i j : Nat} (hij : i < j) (hj : j < n) : cnt ((2 ^ n - 1) ^^^ 2 ^ i ^^^ 2 ^ j) n + 2 = n ∧ (2 ^ n - 1) ^^^ 2 ^ i ^^^ 2 ^ j < 2 ^ n := by
  have hb : ∀ u, u < n → (2 ^ n - 1).testBit u = true := fun u hu => by rw [Nat.testBit_two_pow_sub_one]; exact decide_eq_true hu
  have := cnt_two_del hij hj (hb i (by omega)) (hb j hj)
  rw [cnt_all n n (Nat.le_refl _)] at this
  have hp := Nat.two_pow_pos n
  exact ⟨this, lt_del (by omega) (by omega) hj⟩
theorem cnt_full {m : Nat} : ∀ n, cnt m n = n → ∀ i, i < n → m.testBit i = true
  | 0, _, i, hi => by omega
  | n + 1, h, i, hi => by
    have h2 : cnt m (n + 1) = cnt m n + (if m.testBit n then 1 else 0) := rfl
    have h3 := cnt_le m n
    cases q : m.testBit n
    · rw [q] at h2; simp at h2; omega
    · rw [q] at h2
      simp only [if_true] at h2
      by_cases e : i = n
      · subst e; exact q
      · exact cnt_full n (by omega) i (by omega)
/-- a set of all but two is all without some two -/
theorem is_all_two {n c : Nat} (hc : c < 2 ^ n) (h : cnt c n + 2 = n) : ∃ i j, i < j ∧ j < n ∧ c = (2 ^ n - 1) ^^^ 2 ^ i ^^^ 2 ^ j := by
  have hp := Nat.two_pow_pos n
  have hcm : ∀ u, u < n → ((2 ^ n - 1) ^^^ c).testBit u = !c.testBit u := by
    intro u hu
    rw [Nat.testBit_xor, Nat.testBit_two_pow_sub_one, decide_eq_true hu]
    cases c.testBit u <;> rfl
  have key : ∀ k, k ≤ n → cnt ((2 ^ n - 1) ^^^ c) k + cnt c k = k := by
    intro k
    induction k with
    | zero => intro _; rfl
    | succ k ih =>
      intro hk
      have := ih (by omega)
      show cnt ((2 ^ n - 1) ^^^ c) k + (if ((2 ^ n - 1) ^^^ c).testBit k then 1 else 0) + (cnt c k + (if c.testBit k then 1 else 0)) = k + 1
      rw [hcm k (by omega)]
      cases c.testBit k <;> simp <;> omega
  have hk := key n (Nat.le_refl _)
  obtain ⟨i, i1, i2⟩ := cnt_pos n (show 0 < cnt ((2 ^ n - 1) ^^^ c) n by omega)
  have hd := cnt_del i1 i2
  obtain ⟨j, j1, j2⟩ := cnt_pos n (show 0 < cnt (((2 ^ n - 1) ^^^ c) ^^^ 2 ^ i) n by omega)
  have hd2 := cnt_del j1 j2
  have hz : ∀ u, u < n → ((((2 ^ n - 1) ^^^ c) ^^^ 2 ^ i) ^^^ 2 ^ j).testBit u = false := by
    intro u hu
    rw [Bool.eq_false_iff]
    intro w
    have := cnt_some n hu w
    omega
  rw [tb_x] at j2
  have hij : i ≠ j := by
    intro e
    rw [if_pos e, ← e, i2] at j2
    cases j2
  have hfin : ∀ i j, i ≠ j → (∀ u, u < n → ((((2 ^ n - 1) ^^^ c) ^^^ 2 ^ i) ^^^ 2 ^ j).testBit u = false) → i < n → j < n → c = (2 ^ n - 1) ^^^ 2 ^ i ^^^ 2 ^ j := by
    intro i j hij hz h1 h2
    refine Nat.eq_of_testBit_eq (fun u => ?_)
    rcases Nat.lt_or_ge u n with hu | hu
    · have := hz u hu
      rw [tb_x, tb_x, hcm u hu] at this
      rw [tb_x, tb_x, Nat.testBit_two_pow_sub_one, decide_eq_true hu]
      by_cases e1 : j = u
      · rw [if_pos e1, if_neg (by omega)] at this ⊢
        cases q : c.testBit u
        · rfl
        · rw [q] at this; cases this
      · rw [if_neg e1] at this ⊢
        by_cases e2 : i = u
        · rw [if_pos e2] at this ⊢
          cases q : c.testBit u
          · rfl
          · rw [q] at this; cases this
        · rw [if_neg e2] at this ⊢
          cases q : c.testBit u
          · rw [q] at this; cases this
          · rfl
    · rw [tb_hi hc hu, tb_hi (lt_del (by omega) h1 h2) hu]
  rcases Nat.lt_or_gt_of_ne hij with w | w
  · exact ⟨i, j, w, j1, hfin i j hij hz i1 j1⟩
  · refine ⟨j, i, w, i1, hfin j i (Ne.symm hij) (fun u hu => ?_) j1 i1⟩
    have := hz u hu
    rw [tb_x, tb_x] at this ⊢
    by_cases e1 : i = u
    · rw [if_pos e1]
      rw [if_pos e1, if_neg (by omega)] at this
      rw [if_neg (by omega)]; exact this
    · rw [if_neg e1]
      rw [if_neg e1] at this
      exact this

/-! sets of lines as a net -/

def cnt (m : Nat) : Nat → Nat
  | 0 => 0
  | n + 1 => cnt m n + (if m.testBit n then 1 else 0)
theorem tb_x (m i j : Nat) : (m ^^^ 2 ^ i).testBit j = if i = j then !m.testBit j else m.testBit j := by
  rw [Nat.testBit_xor, Nat.testBit_two_pow]
  by_cases h : i = j <;> simp [h]
theorem tb_o (m i j : Nat) : (m ||| 2 ^ i).testBit j = (m.testBit j || decide (i = j)) := by
  rw [Nat.testBit_or, Nat.testBit_two_pow]
theorem tb_p (i j : Nat) : (2 ^ i).testBit j = decide (i = j) := Nat.testBit_two_pow
theorem tb_hi {m n i : Nat} (h : m < 2 ^ n) (hi : n ≤ i) : m.testBit i = false := Nat.testBit_lt_two_pow (Nat.lt_of_lt_of_le h (Nat.pow_le_pow_right (by decide) hi))
theorem tb_lo {m n i : Nat} (h : m < 2 ^ n) (hi : m.testBit i = true) : i < n := by
  rcases Nat.lt_or_ge i n with q | q
  · exact q
  · rw [tb_hi h q] at hi; cases hi
theorem cnt_le (m : Nat) : ∀ n, cnt m n ≤ n
  | 0 => Nat.le_refl _
  | n + 1 => by
    have := cnt_le m n
    show cnt m n + (if m.testBit n then 1 else 0) ≤ n + 1
    split <;> omega
theorem cnt_ext {a b : Nat} : ∀ n, (∀ i, i < n → a.testBit i = b.testBit i) → cnt a n = cnt b n
  | 0, _ => rfl
  | n + 1, h => by
    show cnt a n + (if a.testBit n then 1 else 0) = cnt b n + (if b.testBit n then 1 else 0)
    rw [cnt_ext n (fun i hi => h i (by omega)), h n (by omega)]
theorem cnt_mono {a b : Nat} : ∀ n, (∀ i, i < n → a.testBit i = true → b.testBit i = true) → cnt a n ≤ cnt b n
  | 0, _ => Nat.le_refl _
  | n + 1, h => by
    have := cnt_mono n (fun i hi => h i (by omega))
    have h2 := h n (by omega)
    show cnt a n + (if a.testBit n then 1 else 0) ≤ cnt b n + (if b.testBit n then 1 else 0)
    by_cases q : a.testBit n = true
    · rw [if_pos q, if_pos (h2 q)]; omega
    · rw [if_neg q]; omega
theorem cnt_lt {a b : Nat} : ∀ n k, (∀ i, i < n → a.testBit i = true → b.testBit i = true) → k < n → a.testBit k = false → b.testBit k = true → cnt a n < cnt b n
  | 0, k, _, hk, _, _ => by omega
  | n + 1, k, h, hk, h1, h2 => by
    show cnt a n + (if a.testBit n then 1 else 0) < cnt b n + (if b.testBit n then 1 else 0)
    by_cases e : k = n
    · subst e
      have := cnt_mono (a := a) (b := b) k (fun i hi => h i (by omega))
      rw [h1, h2]
      simp
      omega
    · have := cnt_lt n k (fun i hi => h i (by omega)) (by omega) h1 h2
      have h3 := h n (by omega)
      by_cases q : a.testBit n = true
      · rw [if_pos q, if_pos (h3 q)]; omega
      · rw [if_neg q]; omega
theorem cnt_add {a b : Nat} : ∀ n, (∀ i, i < n → a.testBit i = true → b.testBit i = false) → cnt (a ||| b) n = cnt a n + cnt b n
  | 0, _ => rfl
  | n + 1, h => by
    show cnt (a ||| b) n + (if (a ||| b).testBit n then 1 else 0) = cnt a n + (if a.testBit n then 1 else 0) + (cnt b n + (if b.testBit n then 1 else 0))
    rw [cnt_add n (fun i hi => h i (by omega)), Nat.testBit_or]
    have h3 := h n (by omega)
    cases q : a.testBit n
    · cases b.testBit n <;> simp <;> omega
    · rw [h3 q]; simp; omega
theorem cnt_zero : ∀ n, cnt 0 n = 0
  | 0 => rfl
  | n + 1 => by show cnt 0 n + (if (0 : Nat).testBit n then 1 else 0) = 0; rw [cnt_zero n]; simp
theorem cnt_more {m k : Nat} (hm : m < 2 ^ k) : ∀ n, k ≤ n → cnt m n = cnt m k := by
  intro n
  induction n with
  | zero => intro h; rw [show k = 0 by omega]
  | succ n ih =>
    intro h
    by_cases e : k = n + 1
    · rw [e]
    · show cnt m n + (if m.testBit n then 1 else 0) = _
      rw [ih (by omega), tb_hi hm (by omega)]
      rfl
theorem cnt_flip {m i : Nat} : ∀ n, i < n → cnt (m ^^^ 2 ^ i) n + (if m.testBit i then 1 else 0) = cnt m n + (if m.testBit i then 0 else 1)
  | 0, h => by omega
  | n + 1, h => by
    show cnt (m ^^^ 2 ^ i) n + (if (m ^^^ 2 ^ i).testBit n then 1 else 0) + (if m.testBit i then 1 else 0) = cnt m n + (if m.testBit n then 1 else 0) + (if m.testBit i then 0 else 1)
    rw [tb_x]
    by_cases e : i = n
    · subst e
      have : cnt (m ^^^ 2 ^ i) i = cnt m i := cnt_ext i (fun j hj => by rw [tb_x, if_neg (by omega)])
      rw [this]
      cases m.testBit i <;> simp
    · have := cnt_flip (m := m) (i := i) n (by omega)
      rw [if_neg e]
      omega
theorem cnt_par {m i n : Nat} (h : i < n) : cnt (m ^^^ 2 ^ i) n % 2 = (cnt m n + 1) % 2 := by
  have := cnt_flip (m := m) n h
  cases q : m.testBit i <;> rw [q] at this <;> simp at this <;> omega
theorem cnt_none {m : Nat} : ∀ n, (∀ i, i < n → m.testBit i = false) → cnt m n = 0
  | 0, _ => rfl
  | n + 1, h => by
    show cnt m n + (if m.testBit n then 1 else 0) = 0
    rw [cnt_none n (fun i hi => h i (by omega)), h n (by omega)]; rfl
theorem cnt_some {m i : Nat} : ∀ n, i < n → m.testBit i = true → 1 ≤ cnt m n
  | 0, h, _ => by omega
  | n + 1, h, w => by
    show 1 ≤ cnt m n + (if m.testBit n then 1 else 0)
    by_cases e : i = n
    · subst e; rw [if_pos w]; omega
    · have := cnt_some n (by omega) w; omega
theorem cnt_two {m i j n : Nat} (hi : i < j) (hj : j < n) (wi : m.testBit i = true) (wj : m.testBit j = true) : 2 ≤ cnt m n := by
  have h1 := cnt_some j hi wi
  have h2 : cnt m (j + 1) = cnt m j + 1 := by show cnt m j + (if m.testBit j then 1 else 0) = _; rw [if_pos wj]
  have h3 : ∀ k, j + 1 ≤ k → cnt m (j + 1) ≤ cnt m k := by
    intro k hk
    induction k with
    | zero => omega
    | succ k ih =>
      by_cases e : j = k
      · subst e; exact Nat.le_refl _
      · exact Nat.le_trans (ih (by omega)) (by show cnt m k ≤ cnt m k + _; omega)
  have := h3 n (by omega)
  omega
theorem cnt_step (m n : Nat) : cnt m n ≤ cnt m (n + 1) := by show cnt m n ≤ cnt m n + _; omega
theorem cnt_mn {m i : Nat} : ∀ n, i ≤ n → cnt m i ≤ cnt m n
  | 0, h => by rw [show i = 0 by omega]; exact Nat.le_refl _
  | n + 1, h => by
    by_cases e : i = n + 1
    · rw [e]; exact Nat.le_refl _
    · exact Nat.le_trans (cnt_mn n (by omega)) (cnt_step m n)
theorem cnt_at {m i j n : Nat} (hi : i < j) (hj : j ≤ n) (wi : m.testBit i = true) : cnt m i < cnt m n := by
  have : cnt m (i + 1) = cnt m i + 1 := by show cnt m i + (if m.testBit i then 1 else 0) = _; rw [if_pos wi]
  have := cnt_mn (m := m) n (show i + 1 ≤ n by omega)
  omega
/-- the lines of the net -/
def wfL (A B : Nat → Nat) (M : Nat) : Prop := (∀ l, l < M → A l < 24 ∧ B l < 24 ∧ A l ≠ B l) ∧ (∀ l k, l < k → k < M → ¬ (A l = A k ∧ B l = B k) ∧ ¬ (A l = B k ∧ B l = A k))
def bet (A B : Nat → Nat) (l p q : Nat) : Prop := A l = p ∧ B l = q ∨ A l = q ∧ B l = p
theorem bet_sym {A B : Nat → Nat} {l p q : Nat} (h : bet A B l p q) : bet A B l q p := h.symm
def adj (A B : Nat → Nat) (M S p q : Nat) : Prop := ∃ l, l < M ∧ S.testBit l = true ∧ bet A B l p q
theorem adj_sym {A B : Nat → Nat} {M S p q : Nat} (h : adj A B M S p q) : adj A B M S q p := by
  obtain ⟨l, h1, h2, h3⟩ := h
  exact ⟨l, h1, h2, h3.symm⟩
def oddN (A B : Nat → Nat) (S : Nat) : Nat → Nat
  | 0 => 0
  | l + 1 => if S.testBit l then oddN A B S l ^^^ 2 ^ A l ^^^ 2 ^ B l else oddN A B S l
def pinN (A B : Nat → Nat) (S : Nat) : Nat → Nat
  | 0 => 0
  | l + 1 => if S.testBit l then pinN A B S l ||| 2 ^ A l ||| 2 ^ B l else pinN A B S l
def flp (J : Nat → Nat) (a b : Nat) : Nat → Nat := fun p => if p = b then J b ^^^ 2 ^ a else if p = a then J a ^^^ 2 ^ b else J p
def joN (A B : Nat → Nat) : Nat → Nat → Nat
  | 0 => fun _ => 0
  | l + 1 => flp (joN A B l) (A l) (B l)
theorem pinN_bit {A B : Nat → Nat} {S : Nat} (i : Nat) : ∀ M, (pinN A B S M).testBit i = true ↔ ∃ l, l < M ∧ S.testBit l = true ∧ (A l = i ∨ B l = i)
  | 0 => by
    constructor
    · intro h; simp [pinN] at h
    · rintro ⟨l, h, _⟩; omega
  | M + 1 => by
    have ih := pinN_bit (A := A) (B := B) (S := S) i M
    show (if S.testBit M then pinN A B S M ||| 2 ^ A M ||| 2 ^ B M else pinN A B S M).testBit i = true ↔ _
    by_cases h : S.testBit M = true
    · rw [if_pos h, tb_o, tb_o, Bool.or_eq_true, Bool.or_eq_true, ih, decide_eq_true_eq, decide_eq_true_eq]
      constructor
      · rintro ((⟨l, h1, h2⟩ | h3) | h3)
        · exact ⟨l, by omega, h2⟩
        · exact ⟨M, by omega, h, .inl h3⟩
        · exact ⟨M, by omega, h, .inr h3⟩
      · rintro ⟨l, h1, h2, h3⟩
        by_cases e : l = M
        · subst e
          rcases h3 with h3 | h3
          · exact .inl (.inr h3)
          · exact .inr h3
        · exact .inl (.inl ⟨l, by omega, h2, h3⟩)
    · rw [if_neg h, ih]
      constructor
      · rintro ⟨l, h1, h2⟩; exact ⟨l, by omega, h2⟩
      · rintro ⟨l, h1, h2, h3⟩
        by_cases e : l = M
        · subst e; exact absurd h2 h
        · exact ⟨l, by omega, h2, h3⟩
theorem tb_flp {J : Nat → Nat} {a b : Nat} (hab : a ≠ b) (p q : Nat) : (flp J a b p).testBit q = if (a = p ∧ b = q) ∨ (a = q ∧ b = p) then !(J p).testBit q else (J p).testBit q := by
  unfold flp
  by_cases h1 : p = b
  · subst h1
    rw [if_pos rfl, tb_x]
    by_cases h2 : a = q
    · subst h2; rw [if_pos rfl, if_pos (Or.inr ⟨rfl, rfl⟩)]
    · rw [if_neg h2, if_neg]
      rintro (⟨q1, _⟩ | ⟨q1, _⟩)
      · exact hab q1
      · exact h2 q1
  · rw [if_neg h1]
    by_cases h2 : p = a
    · subst h2
      rw [if_pos rfl, tb_x]
      by_cases h3 : b = q
      · rw [if_pos h3, if_pos (Or.inl ⟨rfl, h3⟩)]
      · rw [if_neg h3, if_neg]
        rintro (⟨_, q1⟩ | ⟨_, q1⟩)
        · exact h3 q1
        · exact hab q1.symm
    · rw [if_neg h2, if_neg]
      rintro (⟨q1, _⟩ | ⟨_, q1⟩)
      · exact h2 q1.symm
      · exact h1 q1.symm
def isJ (A B : Nat → Nat) (M S : Nat) (J : Nat → Nat) : Prop := ∀ p q, (J p).testBit q = true ↔ adj A B M S p q
theorem joN_bit {A B : Nat → Nat} {M : Nat} (h : wfL A B M) (p q : Nat) : ∀ n, n ≤ M → ((joN A B n p).testBit q = true ↔ ∃ l, l < n ∧ bet A B l p q)
  | 0, _ => by
    constructor
    · intro h; simp [joN] at h
    · rintro ⟨l, h, _⟩; omega
  | n + 1, hn => by
    have ih := joN_bit h p q n (by omega)
    have hw := (h.1 n (by omega)).2.2
    show (flp (joN A B n) (A n) (B n) p).testBit q = true ↔ _
    rw [tb_flp hw]
    by_cases hb : bet A B n p q
    · have hno : (joN A B n p).testBit q = false := by
        rw [Bool.eq_false_iff]
        intro w
        obtain ⟨l, h1, h2⟩ := ih.mp w
        have := h.2 l n h1 (by omega)
        unfold bet at h2 hb
        omega
      rw [if_pos (by unfold bet at hb; omega), hno]
      exact ⟨fun _ => ⟨n, by omega, hb⟩, fun _ => rfl⟩
    · rw [if_neg (by unfold bet at hb; omega), ih]
      constructor
      · rintro ⟨l, h1, h2⟩; exact ⟨l, by omega, h2⟩
      · rintro ⟨l, h1, h2⟩
        by_cases e : l = n
        · subst e; exact absurd h2 hb
        · exact ⟨l, by omega, h2⟩
theorem joN_is {A B : Nat → Nat} {M : Nat} (h : wfL A B M) : isJ A B M (2 ^ M - 1) (joN A B M) := by
  intro p q
  rw [joN_bit h p q M (Nat.le_refl _)]
  constructor
  · rintro ⟨l, h1, h2⟩; exact ⟨l, h1, by rw [Nat.testBit_two_pow_sub_one]; exact decide_eq_true h1, h2⟩
  · rintro ⟨l, h1, _, h2⟩; exact ⟨l, h1, h2⟩
theorem isJ_lt {A B : Nat → Nat} {M S : Nat} {J : Nat → Nat} (h : wfL A B M) (hJ : isJ A B M S J) (p : Nat) : J p < 2 ^ 24 := by
  refine Nat.lt_pow_two_of_testBit _ (fun i hi => ?_)
  rw [Bool.eq_false_iff]
  intro w
  obtain ⟨l, h1, _, h2⟩ := (hJ p i).mp w
  have := h.1 l h1
  unfold bet at h2
  omega
theorem isJ_hi {A B : Nat → Nat} {M S : Nat} {J : Nat → Nat} (h : wfL A B M) (hJ : isJ A B M S J) {p : Nat} (hp : 24 ≤ p) : J p = 0 := by
  refine Nat.eq_of_testBit_eq (fun i => ?_)
  rw [Nat.zero_testBit, Bool.eq_false_iff]
  intro w
  obtain ⟨l, h1, _, h2⟩ := (hJ p i).mp w
  have := h.1 l h1
  unfold bet at h2
  omega
theorem tb_ne {m : Nat} : m ≠ 0 ↔ ∃ i, m.testBit i = true := by
  constructor
  · exact Nat.exists_testBit_of_ne_zero
  · rintro ⟨i, h⟩ e; rw [e, Nat.zero_testBit] at h; cases h
theorem isJ_pin {A B : Nat → Nat} {M S : Nat} {J : Nat → Nat} (hJ : isJ A B M S J) (p : Nat) : (pinN A B S M).testBit p = true ↔ J p ≠ 0 := by
  rw [pinN_bit, tb_ne]
  constructor
  · rintro ⟨l, h1, h2, h3 | h3⟩
    · exact ⟨B l, (hJ p _).mpr ⟨l, h1, h2, .inl ⟨h3, rfl⟩⟩⟩
    · exact ⟨A l, (hJ p _).mpr ⟨l, h1, h2, .inr ⟨rfl, h3⟩⟩⟩
  · rintro ⟨q, h⟩
    obtain ⟨l, h1, h2, h3⟩ := (hJ p q).mp h
    refine ⟨l, h1, h2, ?_⟩
    unfold bet at h3
    omega
theorem oddN_par {A B : Nat → Nat} {M : Nat} (h : wfL A B M) (p : Nat) : ∀ n, n ≤ M → ((oddN A B (2 ^ M - 1) n).testBit p = true ↔ cnt (joN A B n p) 24 % 2 = 1)
  | 0, _ => by
    show (0 : Nat).testBit p = true ↔ cnt 0 24 % 2 = 1
    rw [cnt_zero, Nat.zero_testBit]
    decide
  | n + 1, hn => by
    have ih := oddN_par h p n (by omega)
    have hw := h.1 n (by omega)
    have e : (2 ^ M - 1).testBit n = true := by rw [Nat.testBit_two_pow_sub_one]; exact decide_eq_true (by omega)
    show (if (2 ^ M - 1).testBit n then _ else _ : Nat).testBit p = true ↔ cnt (flp (joN A B n) (A n) (B n) p) 24 % 2 = 1
    rw [if_pos e, tb_x, tb_x]
    unfold flp
    by_cases h1 : p = B n
    · rw [if_pos h1.symm, if_neg (by omega), if_pos h1, cnt_par hw.1, ← h1]
      cases q : (oddN A B (2 ^ M - 1) n).testBit p
      · rw [q] at ih
        have : ¬ cnt (joN A B n p) 24 % 2 = 1 := fun w => by simp [w] at ih
        simp
        omega
      · rw [q] at ih
        have := ih.mp rfl
        simp
        omega
    · rw [if_neg (by omega), if_neg h1]
      by_cases h2 : p = A n
      · rw [if_pos h2.symm, if_pos h2, cnt_par hw.2.1, ← h2]
        cases q : (oddN A B (2 ^ M - 1) n).testBit p
        · rw [q] at ih
          have : ¬ cnt (joN A B n p) 24 % 2 = 1 := fun w => by simp [w] at ih
          simp
          omega
        · rw [q] at ih
          have := ih.mp rfl
          simp
          omega
      · rw [if_neg (by omega), if_neg h2]
        exact ih
theorem oddN_pin {A B : Nat → Nat} {S : Nat} (i : Nat) : ∀ M, (oddN A B S M).testBit i = true → (pinN A B S M).testBit i = true
  | 0, h => by simp [oddN] at h
  | M + 1, h => by
    replace h : (if S.testBit M then oddN A B S M ^^^ 2 ^ A M ^^^ 2 ^ B M else oddN A B S M).testBit i = true := h
    show (if S.testBit M then pinN A B S M ||| 2 ^ A M ||| 2 ^ B M else pinN A B S M).testBit i = true
    by_cases hs : S.testBit M = true
    · rw [if_pos hs] at h ⊢
      rw [tb_x, tb_x] at h
      rw [tb_o, tb_o]
      by_cases h1 : B M = i
      · simp [h1]
      · by_cases h2 : A M = i
        · simp [h2]
        · rw [if_neg h1, if_neg h2] at h
          rw [oddN_pin i M h]; rfl
    · rw [if_neg hs] at h ⊢
      exact oddN_pin i M h
/-- a part that hangs together on its own has an even number of odd pins -/
theorem odd_even {A B : Nat → Nat} {S C : Nat} {M : Nat} (h : wfL A B M) (hC : ∀ l, l < M → S.testBit l = true → (C.testBit (A l) = C.testBit (B l))) : ∀ n, n ≤ M → cnt (C &&& oddN A B S n) 24 % 2 = 0
  | 0, _ => by show cnt (C &&& 0) 24 % 2 = 0; rw [Nat.and_zero, cnt_zero]
  | n + 1, hn => by
    have ih := odd_even h hC n (by omega)
    have hw := h.1 n (by omega)
    show cnt (C &&& (if S.testBit n then oddN A B S n ^^^ 2 ^ A n ^^^ 2 ^ B n else oddN A B S n)) 24 % 2 = 0
    by_cases hs : S.testBit n = true
    · rw [if_pos hs]
      have hc := hC n (by omega) hs
      by_cases hx : C.testBit (A n) = true
      · have e : C &&& (oddN A B S n ^^^ 2 ^ A n ^^^ 2 ^ B n) = (C &&& oddN A B S n) ^^^ 2 ^ A n ^^^ 2 ^ B n := by
          refine Nat.eq_of_testBit_eq (fun i => ?_)
          rw [Nat.testBit_and, tb_x, tb_x, tb_x, tb_x, Nat.testBit_and]
          by_cases h1 : B n = i
          · rw [if_pos h1, if_pos h1, if_neg (by omega), if_neg (by omega), ← h1, ← hc, hx]; simp
          · rw [if_neg h1, if_neg h1]
            by_cases h2 : A n = i
            · rw [if_pos h2, if_pos h2, ← h2, hx]; simp
            · rw [if_neg h2, if_neg h2]
        rw [e, cnt_par hw.2.1]
        have := cnt_par (m := C &&& oddN A B S n) hw.1
        omega
      · have hx2 : C.testBit (A n) = false := by simpa using hx
        have e : C &&& (oddN A B S n ^^^ 2 ^ A n ^^^ 2 ^ B n) = (C &&& oddN A B S n) := by
          refine Nat.eq_of_testBit_eq (fun i => ?_)
          rw [Nat.testBit_and, tb_x, tb_x, Nat.testBit_and]
          by_cases h1 : B n = i
          · rw [← h1, ← hc, hx2]; simp
          · rw [if_neg h1]
            by_cases h2 : A n = i
            · rw [← h2, hx2]; simp
            · rw [if_neg h2]
        rw [e]
        exact ih
    · rw [if_neg hs]
      exact ih
/-- wider by what hangs on it -/
def exN (J : Nat → Nat) (m : Nat) : Nat → Nat
  | 0 => m
  | i + 1 => if m.testBit i then exN J m i ||| J i else exN J m i
theorem exN_bit {J : Nat → Nat} {m : Nat} (q : Nat) : ∀ n, (exN J m n).testBit q = true ↔ m.testBit q = true ∨ ∃ i, i < n ∧ m.testBit i = true ∧ (J i).testBit q = true
  | 0 => by
    constructor
    · intro h; exact .inl h
    · rintro (h | ⟨i, h, _⟩)
      · exact h
      · omega
  | n + 1 => by
    have ih := exN_bit (J := J) (m := m) q n
    show (if m.testBit n then exN J m n ||| J n else exN J m n).testBit q = true ↔ _
    by_cases h : m.testBit n = true
    · rw [if_pos h, Nat.testBit_or, Bool.or_eq_true, ih]
      constructor
      · rintro ((h1 | ⟨i, h1, h2⟩) | h3)
        · exact .inl h1
        · exact .inr ⟨i, by omega, h2⟩
        · exact .inr ⟨n, by omega, h, h3⟩
      · rintro (h1 | ⟨i, h1, h2, h3⟩)
        · exact .inl (.inl h1)
        · by_cases e : i = n
          · subst e; exact .inr h3
          · exact .inl (.inr ⟨i, by omega, h2, h3⟩)
    · rw [if_neg h, ih]
      constructor
      · rintro (h1 | ⟨i, h1, h2⟩)
        · exact .inl h1
        · exact .inr ⟨i, by omega, h2⟩
      · rintro (h1 | ⟨i, h1, h2, h3⟩)
        · exact .inl h1
        · by_cases e : i = n
          · subst e; exact absurd h2 h
          · exact .inr ⟨i, by omega, h2, h3⟩
theorem exN_lt {J : Nat → Nat} {m : Nat} (hJ : ∀ p, J p < 2 ^ 24) (hm : m < 2 ^ 24) : ∀ n, exN J m n < 2 ^ 24
  | 0 => hm
  | n + 1 => by
    have ih := exN_lt hJ hm n
    show (if m.testBit n then exN J m n ||| J n else exN J m n) < 2 ^ 24
    split
    · exact Nat.or_lt_two_pow ih (hJ n)
    · exact ih
def clN (J : Nat → Nat) (m : Nat) : Nat → Nat
  | 0 => m
  | k + 1 => exN J (clN J m k) 24
theorem clN_lt {J : Nat → Nat} {m : Nat} (hJ : ∀ p, J p < 2 ^ 24) (hm : m < 2 ^ 24) : ∀ n, clN J m n < 2 ^ 24
  | 0 => hm
  | n + 1 => exN_lt hJ (clN_lt hJ hm n) 24
theorem clN_stay {J : Nat → Nat} {m r : Nat} (h : clN J m (r + 1) = clN J m r) : ∀ k, clN J m (r + k) = clN J m r
  | 0 => rfl
  | k + 1 => by
    show exN J (clN J m (r + k)) 24 = _
    rw [clN_stay h k]
    exact h
theorem clN_sub {J : Nat → Nat} {m : Nat} (k i : Nat) (h : (clN J m k).testBit i = true) : (clN J m (k + 1)).testBit i = true := (exN_bit i 24).mpr (.inl h)
theorem clN_sub0 {J : Nat → Nat} {m : Nat} (i : Nat) (h : m.testBit i = true) : ∀ k, (clN J m k).testBit i = true
  | 0 => h
  | k + 1 => clN_sub k i (clN_sub0 i h k)
theorem clN_grow {J : Nat → Nat} {m : Nat} (hJ : ∀ p, J p < 2 ^ 24) (hm : m < 2 ^ 24) (h1 : 1 ≤ cnt m 24) : ∀ r, (∀ k, k < r → clN J m (k + 1) ≠ clN J m k) → r + 1 ≤ cnt (clN J m r) 24
  | 0, _ => h1
  | r + 1, h => by
    have ih := clN_grow hJ hm h1 r (fun k hk => h k (by omega))
    have hne := h r (by omega)
    have : cnt (clN J m r) 24 < cnt (clN J m (r + 1)) 24 := by
      apply Classical.byContradiction
      intro hc
      apply hne
      refine Nat.eq_of_testBit_eq (fun i => ?_)
      rcases Nat.lt_or_ge i 24 with hi | hi
      · cases q : (clN J m r).testBit i
        · rw [Bool.eq_false_iff]
          intro w
          exact hc (cnt_lt 24 i (fun j _ => clN_sub r j) hi q w)
        · exact clN_sub r i q
      · rw [tb_hi (clN_lt hJ hm _) hi, tb_hi (clN_lt hJ hm _) hi]
    omega
theorem clN_end {J : Nat → Nat} {m : Nat} (hJ : ∀ p, J p < 2 ^ 24) (hm : m < 2 ^ 24) (h1 : 1 ≤ cnt m 24) : clN J m 25 = clN J m 24 := by
  by_cases h : ∀ k, k < 24 → clN J m (k + 1) ≠ clN J m k
  · have := clN_grow hJ hm h1 24 h
    have := cnt_le (clN J m 24) 24
    omega
  · have : ∃ k, k < 24 ∧ clN J m (k + 1) = clN J m k := by
      apply Classical.byContradiction
      intro hc
      exact h (fun k hk he => hc ⟨k, hk, he⟩)
    obtain ⟨k, hk, he⟩ := this
    have e1 := clN_stay he (24 - k)
    have e2 := clN_stay he (25 - k)
    rw [show k + (24 - k) = 24 by omega] at e1
    rw [show k + (25 - k) = 25 by omega] at e2
    rw [e1, e2]
def prt (J : Nat → Nat) (p : Nat) : Nat := clN J (2 ^ p) 24
theorem p_lt {p : Nat} (hp : p < 24) : 2 ^ p < 2 ^ 24 := Nat.pow_lt_pow_right (by decide) hp
theorem cnt_one {p : Nat} (hp : p < 24) : 1 ≤ cnt (2 ^ p) 24 := cnt_some 24 hp (by rw [tb_p]; simp)
theorem prt_clo {J : Nat → Nat} {p : Nat} (hJ : ∀ p, J p < 2 ^ 24) (hp : p < 24) {i j : Nat} (hi : (prt J p).testBit i = true) (hij : (J i).testBit j = true) : (prt J p).testBit j = true := by
  have e := clN_end hJ (p_lt hp) (cnt_one hp)
  show (clN J (2 ^ p) 24).testBit j = true
  rw [← e]
  refine (exN_bit j 24).mpr (.inr ⟨i, ?_, hi, hij⟩)
  exact tb_lo (clN_lt hJ (p_lt hp) 24) hi
theorem prt_self {J : Nat → Nat} {p : Nat} : (prt J p).testBit p = true := clN_sub0 p (by rw [tb_p]; simp) 24
theorem prt_lt {J : Nat → Nat} {p : Nat} (hJ : ∀ p, J p < 2 ^ 24) (hp : p < 24) : prt J p < 2 ^ 24 := clN_lt hJ (p_lt hp) 24
theorem clN_least {J : Nat → Nat} {m : Nat} {X : Nat → Prop} (hm : ∀ i, m.testBit i = true → X i) (hX : ∀ i j, X i → (J i).testBit j = true → X j) : ∀ k i, (clN J m k).testBit i = true → X i
  | 0, i, h => hm i h
  | k + 1, i, h => by
    rcases (exN_bit i 24).mp h with h1 | ⟨j, _, h2, h3⟩
    · exact clN_least hm hX k i h1
    · exact hX j i (clN_least hm hX k j h2) h3
theorem prt_least {J : Nat → Nat} {p : Nat} {X : Nat → Prop} (hm : X p) (hX : ∀ i j, X i → (J i).testBit j = true → X j) (i : Nat) (h : (prt J p).testBit i = true) : X i := by
  refine clN_least (fun i hi => ?_) hX 24 i h
  rw [tb_p, decide_eq_true_eq] at hi
  rw [← hi]
  exact hm
/-- the other way: line by line -/
def rcI (A B : Nat → Nat) (S all : Nat) : Nat → Nat
  | 0 => all
  | l + 1 => if S.testBit l = true ∧ ((rcI A B S all l).testBit (A l) = true ∨ (rcI A B S all l).testBit (B l) = true) then rcI A B S all l ||| (2 ^ A l ||| 2 ^ B l) else rcI A B S all l
def rcN (A B : Nat → Nat) (S M all : Nat) : Nat → Nat
  | 0 => all
  | k + 1 => rcI A B S (rcN A B S M all k) M
theorem rcI_sub {A B : Nat → Nat} {S all : Nat} (i : Nat) (h : all.testBit i = true) : ∀ l, (rcI A B S all l).testBit i = true
  | 0 => h
  | l + 1 => by
    have ih := rcI_sub (A := A) (B := B) (S := S) i h l
    show (if _ then _ else _ : Nat).testBit i = true
    split
    · rw [Nat.testBit_or, ih]; rfl
    · exact ih
theorem rcI_up {A B : Nat → Nat} {S all i : Nat} (l : Nat) (h : (rcI A B S all l).testBit i = true) : ∀ k, (rcI A B S all (l + k)).testBit i = true
  | 0 => h
  | k + 1 => by
    have ih := rcI_up l h k
    show (if S.testBit (l + k) = true ∧ ((rcI A B S all (l + k)).testBit (A (l + k)) = true ∨ (rcI A B S all (l + k)).testBit (B (l + k)) = true) then rcI A B S all (l + k) ||| (2 ^ A (l + k) ||| 2 ^ B (l + k)) else rcI A B S all (l + k)).testBit i = true
    split
    · rw [Nat.testBit_or, ih]; rfl
    · exact ih
theorem rcI_in {A B : Nat → Nat} {S all M l : Nat} (hl : l < M) (hs : S.testBit l = true) (h : all.testBit (A l) = true ∨ all.testBit (B l) = true) : (rcI A B S all M).testBit (A l) = true ∧ (rcI A B S all M).testBit (B l) = true := by
  have hc : (rcI A B S all l).testBit (A l) = true ∨ (rcI A B S all l).testBit (B l) = true := h.imp (fun w => rcI_sub _ w l) (fun w => rcI_sub _ w l)
  have e : rcI A B S all (l + 1) = rcI A B S all l ||| (2 ^ A l ||| 2 ^ B l) := if_pos ⟨hs, hc⟩
  have h1 : (rcI A B S all (l + 1)).testBit (A l) = true := by rw [e, Nat.testBit_or, tb_o, tb_p]; simp
  have h2 : (rcI A B S all (l + 1)).testBit (B l) = true := by rw [e, Nat.testBit_or, tb_o, tb_p]; simp
  have g1 := rcI_up (l + 1) h1 (M - (l + 1))
  have g2 := rcI_up (l + 1) h2 (M - (l + 1))
  rw [show l + 1 + (M - (l + 1)) = M by omega] at g1 g2
  exact ⟨g1, g2⟩
theorem rcI_least {A B : Nat → Nat} {S all M : Nat} {X : Nat → Prop} (hm : ∀ i, all.testBit i = true → X i) (hX : ∀ l, l < M → S.testBit l = true → (X (A l) ↔ X (B l))) : ∀ l, l ≤ M → ∀ i, (rcI A B S all l).testBit i = true → X i
  | 0, _, i, h => hm i h
  | l + 1, hl, i, h => by
    have ih := rcI_least hm hX l (by omega)
    replace h : (if S.testBit l = true ∧ ((rcI A B S all l).testBit (A l) = true ∨ (rcI A B S all l).testBit (B l) = true) then rcI A B S all l ||| (2 ^ A l ||| 2 ^ B l) else rcI A B S all l).testBit i = true := h
    by_cases hc : S.testBit l = true ∧ ((rcI A B S all l).testBit (A l) = true ∨ (rcI A B S all l).testBit (B l) = true)
    · rw [if_pos hc, Nat.testBit_or, tb_o, tb_p] at h
      have hx := hX l (by omega) hc.1
      have hxa : X (A l) ∧ X (B l) := by
        rcases hc.2 with w | w
        · exact ⟨ih _ w, hx.mp (ih _ w)⟩
        · exact ⟨hx.mpr (ih _ w), ih _ w⟩
      simp only [Bool.or_eq_true, decide_eq_true_eq] at h
      rcases h with h | h | h
      · exact ih i h
      · exact h ▸ hxa.1
      · exact h ▸ hxa.2
    · rw [if_neg hc] at h
      exact ih i h
/-- how many of the lines lie inside -/
def insN (A B : Nat → Nat) (S all : Nat) : Nat → Nat
  | 0 => 0
  | l + 1 => insN A B S all l + (if S.testBit l = true → all.testBit (A l) = true ∧ all.testBit (B l) = true then 1 else 0)
theorem insN_le {A B : Nat → Nat} {S all : Nat} : ∀ l, insN A B S all l ≤ l
  | 0 => Nat.le_refl _
  | l + 1 => by
    have := insN_le (A := A) (B := B) (S := S) (all := all) l
    show insN A B S all l + (if _ then 1 else 0) ≤ l + 1
    split <;> omega
theorem insN_mono {A B : Nat → Nat} {S all al2 : Nat} (h : ∀ i, all.testBit i = true → al2.testBit i = true) : ∀ l, insN A B S all l ≤ insN A B S al2 l
  | 0 => Nat.le_refl _
  | l + 1 => by
    have ih := insN_mono (A := A) (B := B) (S := S) h l
    show insN A B S all l + (if S.testBit l = true → all.testBit (A l) = true ∧ all.testBit (B l) = true then 1 else 0) ≤ insN A B S al2 l + (if S.testBit l = true → al2.testBit (A l) = true ∧ al2.testBit (B l) = true then 1 else 0)
    by_cases q : S.testBit l = true → all.testBit (A l) = true ∧ all.testBit (B l) = true
    · rw [if_pos q, if_pos (fun w => ⟨h _ (q w).1, h _ (q w).2⟩)]; omega
    · rw [if_neg q]; omega
theorem insN_lt {A B : Nat → Nat} {S all al2 k : Nat} (h : ∀ i, all.testBit i = true → al2.testBit i = true) (hk1 : ¬ (S.testBit k = true → all.testBit (A k) = true ∧ all.testBit (B k) = true)) (hk2 : S.testBit k = true → al2.testBit (A k) = true ∧ al2.testBit (B k) = true) : ∀ l, k < l → insN A B S all l < insN A B S al2 l
  | 0, hl => by omega
  | l + 1, hl => by
    show insN A B S all l + (if S.testBit l = true → all.testBit (A l) = true ∧ all.testBit (B l) = true then 1 else 0) < insN A B S al2 l + (if S.testBit l = true → al2.testBit (A l) = true ∧ al2.testBit (B l) = true then 1 else 0)
    by_cases e : k = l
    · subst e
      have := insN_mono (A := A) (B := B) (S := S) h k
      rw [if_neg hk1, if_pos hk2]
      omega
    · have ih := insN_lt h hk1 hk2 l (by omega)
      by_cases q : S.testBit l = true → all.testBit (A l) = true ∧ all.testBit (B l) = true
      · rw [if_pos q, if_pos (fun w => ⟨h _ (q w).1, h _ (q w).2⟩)]; omega
      · rw [if_neg q]; omega
theorem insN_all {A B : Nat → Nat} {S all : Nat} : ∀ l, insN A B S all l = l → ∀ k, k < l → S.testBit k = true → all.testBit (A k) = true ∧ all.testBit (B k) = true
  | 0, _, k, hk => by omega
  | l + 1, h, k, hk => by
    replace h : insN A B S all l + (if S.testBit l = true → all.testBit (A l) = true ∧ all.testBit (B l) = true then 1 else 0) = l + 1 := h
    have hle := insN_le (A := A) (B := B) (S := S) (all := all) l
    by_cases q : S.testBit l = true → all.testBit (A l) = true ∧ all.testBit (B l) = true
    · rw [if_pos q] at h
      by_cases e : k = l
      · subst e; exact q
      · exact insN_all l (by omega) k (by omega)
    · rw [if_neg q] at h
      omega
/-- no line leads out -/
def cloL (A B : Nat → Nat) (S M all : Nat) : Prop := ∀ l, l < M → S.testBit l = true → (all.testBit (A l) = true ↔ all.testBit (B l) = true)
theorem rcN_sub {A B : Nat → Nat} {S M all : Nat} (i : Nat) (h : all.testBit i = true) : ∀ k, (rcN A B S M all k).testBit i = true
  | 0 => h
  | k + 1 => rcI_sub i (rcN_sub i h k) M
theorem rcN_least {A B : Nat → Nat} {S M all : Nat} {X : Nat → Prop} (hm : ∀ i, all.testBit i = true → X i) (hX : ∀ l, l < M → S.testBit l = true → (X (A l) ↔ X (B l))) : ∀ k i, (rcN A B S M all k).testBit i = true → X i
  | 0, i, h => hm i h
  | k + 1, i, h => rcI_least (rcN_least hm hX k) hX M (Nat.le_refl _) i h
theorem rcI_clo {A B : Nat → Nat} {S M all : Nat} (h : cloL A B S M all) : rcI A B S all M = all := by
  refine Nat.eq_of_testBit_eq (fun i => ?_)
  cases q : all.testBit i
  · rw [Bool.eq_false_iff]
    intro w
    have := rcI_least (X := fun j => all.testBit j = true) (fun _ w => w) h M (Nat.le_refl _) i w
    rw [q] at this
    cases this
  · exact rcI_sub i q M
theorem rcN_end {A B : Nat → Nat} {S M all : Nat} : ∀ k, cloL A B S M (rcN A B S M all k) ∨ k ≤ insN A B S (rcN A B S M all k) M
  | 0 => .inr (Nat.zero_le _)
  | k + 1 => by
    by_cases hc : cloL A B S M (rcN A B S M all k)
    · left
      show cloL A B S M (rcI A B S (rcN A B S M all k) M)
      rw [rcI_clo hc]
      exact hc
    · rcases rcN_end (A := A) (B := B) (S := S) (M := M) (all := all) k with h | h
      · exact absurd h hc
      · right
        have : ∃ l, l < M ∧ S.testBit l = true ∧ ¬ ((rcN A B S M all k).testBit (A l) = true ↔ (rcN A B S M all k).testBit (B l) = true) := by
          apply Classical.byContradiction
          intro hn
          exact hc (fun l h1 h2 => Classical.byContradiction fun h3 => hn ⟨l, h1, h2, h3⟩)
        obtain ⟨l, h1, h2, h3⟩ := this
        have hor : (rcN A B S M all k).testBit (A l) = true ∨ (rcN A B S M all k).testBit (B l) = true := by
          apply Classical.byContradiction
          intro hn
          exact h3 ⟨fun w => absurd (Or.inl w) hn, fun w => absurd (Or.inr w) hn⟩
        have := insN_lt (A := A) (B := B) (S := S) (all := rcN A B S M all k) (al2 := rcN A B S M all (k + 1)) (k := l) (fun i w => rcI_sub i w M) (fun q => h3 ⟨fun _ => (q h2).2, fun _ => (q h2).1⟩) (fun _ => rcI_in h1 h2 hor) M h1
        omega
theorem rcN_clo {A B : Nat → Nat} {S M all : Nat} : cloL A B S M (rcN A B S M all M) := by
  rcases rcN_end (A := A) (B := B) (S := S) (M := M) (all := all) M with h | h
  · exact h
  · have h2 := insN_all M (Nat.le_antisymm (insN_le M) h)
    intro l hl hs
    have := h2 l hl hs
    exact ⟨fun _ => this.2, fun _ => this.1⟩
theorem rc_eq {A B : Nat → Nat} {S M p : Nat} {J : Nat → Nat} (hw : wfL A B M) (hJ : isJ A B M S J) (hp : p < 24) : rcN A B S M (2 ^ p) M = prt J p := by
  have hlt := isJ_lt hw hJ
  refine Nat.eq_of_testBit_eq (fun i => ?_)
  apply Bool.eq_iff_iff.mpr
  constructor
  · refine rcN_least (X := fun i => (prt J p).testBit i = true) (fun i hi => ?_) (fun l h1 h2 => ?_) M i
    · rw [tb_p, decide_eq_true_eq] at hi
      subst hi
      exact prt_self
    · have ha : (J (A l)).testBit (B l) = true := (hJ _ _).mpr ⟨l, h1, h2, .inl ⟨rfl, rfl⟩⟩
      have hb : (J (B l)).testBit (A l) = true := (hJ _ _).mpr ⟨l, h1, h2, .inr ⟨rfl, rfl⟩⟩
      exact ⟨fun w => prt_clo hlt hp w ha, fun w => prt_clo hlt hp w hb⟩
  · refine prt_least (X := fun i => (rcN A B S M (2 ^ p) M).testBit i = true) (rcN_sub p (by rw [tb_p]; simp) M) (fun i j hi hij => ?_) i
    obtain ⟨l, h1, h2, h3⟩ := (hJ i j).mp hij
    have hc := rcN_clo (A := A) (B := B) (S := S) (M := M) (all := 2 ^ p) l h1 h2
    rcases h3 with ⟨e1, e2⟩ | ⟨e1, e2⟩
    · rw [e1, e2] at hc; exact hc.mp hi
    · rw [e1, e2] at hc; exact hc.mpr hi
theorem isJ_sym {A B : Nat → Nat} {M S : Nat} {J : Nat → Nat} (hJ : isJ A B M S J) {p q : Nat} (h : (J p).testBit q = true) : (J q).testBit p = true := (hJ q p).mpr (adj_sym ((hJ p q).mp h))
theorem prt_out {A B : Nat → Nat} {M S : Nat} {J : Nat → Nat} (hJ : isJ A B M S J) {p : Nat} {X : Nat} (hX : ∀ i j, X.testBit i = true → (J i).testBit j = true → X.testBit j = true) (hp : X.testBit p = false) (i : Nat) (h : (prt J p).testBit i = true) : X.testBit i = false := by
  refine prt_least (X := fun i => X.testBit i = false) hp (fun i j hi hij => ?_) i h
  show X.testBit j = false
  rw [Bool.eq_false_iff]
  intro w
  rw [hX j i w (isJ_sym hJ hij)] at hi
  cases hi
/-- the parts one after another: seen, threads, parts, odd pins -/
def knF (J : Nat → Nat) (od : Nat) : Nat → Nat × Nat × Nat × Nat
  | 0 => (0, 0, 0, 0)
  | p + 1 => if J p ≠ 0 ∧ (knF J od p).1.testBit p = false then ((knF J od p).1 ||| prt J p, (knF J od p).2.1 + max (cnt (prt J p &&& od) 24 / 2) 1, (knF J od p).2.2.1 + 1, (knF J od p).2.2.2 + cnt (prt J p &&& od) 24) else knF J od p
theorem knF_yes {J : Nat → Nat} {od p : Nat} (h : J p ≠ 0 ∧ (knF J od p).1.testBit p = false) : knF J od (p + 1) = ((knF J od p).1 ||| prt J p, (knF J od p).2.1 + max (cnt (prt J p &&& od) 24 / 2) 1, (knF J od p).2.2.1 + 1, (knF J od p).2.2.2 + cnt (prt J p &&& od) 24) := if_pos h
theorem knF_no {J : Nat → Nat} {od p : Nat} (h : ¬ (J p ≠ 0 ∧ (knF J od p).1.testBit p = false)) : knF J od (p + 1) = knF J od p := if_neg h
theorem knF_skip {J : Nat → Nat} {od p : Nat} : ∀ k, (∀ i, p ≤ i → i < p + k → J i = 0 ∨ (knF J od p).1.testBit i = true) → knF J od (p + k) = knF J od p
  | 0, _ => rfl
  | k + 1, h => by
    have ih := knF_skip (J := J) (od := od) (p := p) k (fun i h1 h2 => h i h1 (by omega))
    have hk := h (p + k) (by omega) (by omega)
    rw [← ih] at hk
    refine (knF_no (p := p + k) ?_).trans ih
    rintro ⟨h1, h2⟩
    rcases hk with q | q
    · exact h1 q
    · rw [q] at h2; cases h2
theorem knF_clo {A B : Nat → Nat} {M S : Nat} {J : Nat → Nat} {od : Nat} (hw : wfL A B M) (hJ : isJ A B M S J) : ∀ p, p ≤ 24 → (knF J od p).1 < 2 ^ 24 ∧ (∀ i j, (knF J od p).1.testBit i = true → (J i).testBit j = true → (knF J od p).1.testBit j = true) ∧ (∀ i, i < p → J i ≠ 0 → (knF J od p).1.testBit i = true) ∧ (knF J od p).2.2.2 = cnt ((knF J od p).1 &&& od) 24 ∧ (knF J od p).2.2.1 ≤ (knF J od p).2.1 ∧ (∀ i, (knF J od p).1.testBit i = true → 1 ≤ (knF J od p).2.2.1)
  | 0, _ => by
    refine ⟨by show (0 : Nat) < 2 ^ 24; decide, ?_, ?_, ?_, Nat.le_refl _, ?_⟩
    · intro i j h; simp [knF] at h
    · intro i h; omega
    · show 0 = cnt (0 &&& od) 24; rw [Nat.zero_and, cnt_zero]
    · intro i h; simp [knF] at h
  | p + 1, hp => by
    obtain ⟨i1, i2, i3, i4, i5, i6⟩ := knF_clo (od := od) hw hJ p (by omega)
    have hlt := isJ_lt hw hJ
    by_cases h : J p ≠ 0 ∧ (knF J od p).1.testBit p = false
    · rw [knF_yes h]
      refine ⟨Nat.or_lt_two_pow i1 (prt_lt hlt (by omega)), ?_, ?_, ?_, ?_, ?_⟩
      · intro i j
        show ((knF J od p).1 ||| prt J p).testBit i = true → _ → ((knF J od p).1 ||| prt J p).testBit j = true
        rw [Nat.testBit_or, Nat.testBit_or, Bool.or_eq_true, Bool.or_eq_true]
        intro h1 h2
        exact h1.imp (fun w => i2 i j w h2) (fun w => prt_clo hlt (by omega) w h2)
      · intro i hi hne
        show ((knF J od p).1 ||| prt J p).testBit i = true
        rw [Nat.testBit_or, Bool.or_eq_true]
        by_cases e : i = p
        · subst e; exact .inr prt_self
        · exact .inl (i3 i (by omega) hne)
      · show (knF J od p).2.2.2 + cnt (prt J p &&& od) 24 = cnt (((knF J od p).1 ||| prt J p) &&& od) 24
        rw [i4, Nat.and_or_distrib_right, cnt_add]
        intro i _ w
        rw [Nat.testBit_and, Bool.and_eq_true] at w
        rw [Nat.testBit_and, Bool.eq_false_iff]
        intro w2
        rw [Bool.and_eq_true] at w2
        have := prt_out hJ i2 h.2 i w2.1
        rw [w.1] at this
        cases this
      · show (knF J od p).2.2.1 + 1 ≤ (knF J od p).2.1 + max (cnt (prt J p &&& od) 24 / 2) 1
        have := Nat.le_max_right (cnt (prt J p &&& od) 24 / 2) 1
        omega
      · intro i _
        show 1 ≤ (knF J od p).2.2.1 + 1
        omega
    · rw [knF_no h]
      refine ⟨i1, i2, ?_, i4, i5, i6⟩
      intro i hi hne
      by_cases e : i = p
      · subst e
        by_cases w : (knF J od i).1.testBit i = true
        · exact w
        · exact absurd ⟨hne, by simpa using w⟩ h
      · exact i3 i (by omega) hne
/-- what is left of the pins, from the least on -/
def lfI (J : Nat → Nat) (od p left : Nat) : Prop := (∀ i, left.testBit i = true ↔ (J i ≠ 0 ∧ (knF J od p).1.testBit i = false)) ∧ (∀ i, i < p → left.testBit i = false)
theorem lfI_done {J : Nat → Nat} {od p : Nat} (h : lfI J od p 0) (hp : p ≤ 24) : knF J od 24 = knF J od p := by
  have := knF_skip (J := J) (od := od) (p := p) (24 - p) (fun i _ _ => by
    by_cases w : J i = 0
    · exact .inl w
    · right
      cases q : (knF J od p).1.testBit i
      · have := (h.1 i).mpr ⟨w, q⟩
        rw [Nat.zero_testBit] at this
        cases this
      · rfl)
  rw [show p + (24 - p) = 24 by omega] at this
  exact this
theorem lfI_first {A B : Nat → Nat} {M S : Nat} {J : Nat → Nat} (od : Nat) (hJ : isJ A B M S J) : lfI J od 0 (pinN A B S M) := by
  refine ⟨fun i => ?_, fun i h => by omega⟩
  rw [isJ_pin hJ]
  constructor
  · intro h; exact ⟨h, by show (0 : Nat).testBit i = false; rw [Nat.zero_testBit]⟩
  · exact fun h => h.1
theorem lfI_next {J : Nat → Nat} {od p left q : Nat} (h : lfI J od p left) (hq : left.testBit q = true) (hl : ∀ i, i < q → left.testBit i = false) : p ≤ q ∧ knF J od (q + 1) = ((knF J od p).1 ||| prt J q, (knF J od p).2.1 + max (cnt (prt J q &&& od) 24 / 2) 1, (knF J od p).2.2.1 + 1, (knF J od p).2.2.2 + cnt (prt J q &&& od) 24) ∧ ∀ l2 : Nat, (∀ i, l2.testBit i = (left.testBit i && !(prt J q).testBit i)) → lfI J od (q + 1) l2 := by
  have hpq : p ≤ q := by
    rcases Nat.lt_or_ge q p with w | w
    · rw [h.2 q w] at hq; cases hq
    · exact w
  have hs := knF_skip (J := J) (od := od) (p := p) (q - p) (fun i h1 h2 => by
    have h3 := hl i (by omega)
    by_cases w : J i = 0
    · exact .inl w
    · right
      cases q : (knF J od p).1.testBit i
      · have := (h.1 i).mpr ⟨w, q⟩
        rw [h3] at this
        cases this
      · rfl)
  rw [show p + (q - p) = q by omega] at hs
  have hy := (h.1 q).mp hq
  rw [← hs] at hy
  have e := knF_yes hy
  refine ⟨hpq, by rw [e, hs], ?_⟩
  intro l2 h2
  constructor
  · intro i
    rw [h2, e, hs, Bool.and_eq_true, h.1]
    show _ ↔ J i ≠ 0 ∧ ((knF J od p).1 ||| prt J q).testBit i = false
    rw [Nat.testBit_or]
    cases (knF J od p).1.testBit i <;> cases (prt J q).testBit i <;> simp
  · intro i hi
    rw [h2]
    by_cases e : i = q
    · subst e; rw [prt_self]; simp
    · rw [hl i (by omega)]; rfl
/-- one thread through all: what is gone, and where -/
def goF (A B : Nat → Nat) (M S at_ : Nat) (J : Nat → Nat) : Prop := isJ A B M S J ∧ at_ < 24 ∧ (∀ i, J i ≠ 0 → (prt J at_).testBit i = true) ∧ (oddN A B S M = 0 ∨ ∃ z, z ≠ at_ ∧ ∀ i, (oddN A B S M).testBit i = true ↔ i = at_ ∨ i = z)
theorem oddN_del {A B : Nat → Nat} {S k : Nat} (hk : S.testBit k = true) : ∀ M, oddN A B (S ^^^ 2 ^ k) M = if k < M then oddN A B S M ^^^ 2 ^ A k ^^^ 2 ^ B k else oddN A B S M
  | 0 => by rw [if_neg (by omega)]; rfl
  | M + 1 => by
    have ih := oddN_del (A := A) (B := B) hk M
    show (if (S ^^^ 2 ^ k).testBit M then oddN A B (S ^^^ 2 ^ k) M ^^^ 2 ^ A M ^^^ 2 ^ B M else oddN A B (S ^^^ 2 ^ k) M) = if k < M + 1 then (if S.testBit M then oddN A B S M ^^^ 2 ^ A M ^^^ 2 ^ B M else oddN A B S M) ^^^ 2 ^ A k ^^^ 2 ^ B k else (if S.testBit M then oddN A B S M ^^^ 2 ^ A M ^^^ 2 ^ B M else oddN A B S M)
    rw [tb_x]
    by_cases e : k = M
    · subst e
      rw [if_neg (show ¬ k < k by omega)] at ih
      rw [if_pos rfl, hk, ih, if_pos (show k < k + 1 by omega)]
      simp only [Bool.not_true, Bool.false_eq_true, if_false, if_true]
      refine Nat.eq_of_testBit_eq (fun i => ?_)
      rw [Nat.testBit_xor, Nat.testBit_xor, Nat.testBit_xor, Nat.testBit_xor]
      generalize (oddN A B S k).testBit i = x1
      generalize (2 ^ A k).testBit i = x2
      generalize (2 ^ B k).testBit i = x3
      cases x1 <;> cases x2 <;> cases x3 <;> rfl
    · rw [if_neg e]
      by_cases h : k < M
      · rw [if_pos h] at ih
        rw [ih, if_pos (show k < M + 1 by omega)]
        by_cases hs : S.testBit M = true
        · rw [if_pos hs, if_pos hs]
          refine Nat.eq_of_testBit_eq (fun i => ?_)
          simp only [Nat.testBit_xor]
          generalize (oddN A B S M).testBit i = x1
          generalize (2 ^ A k).testBit i = x2
          generalize (2 ^ B k).testBit i = x3
          generalize (2 ^ A M).testBit i = x4
          generalize (2 ^ B M).testBit i = x5
          cases x1 <;> cases x2 <;> cases x3 <;> cases x4 <;> cases x5 <;> rfl
        · rw [if_neg hs, if_neg hs]
      · rw [if_neg h] at ih
        rw [ih, if_neg (show ¬ k < M + 1 by omega)]
theorem bet_ne {A B : Nat → Nat} {M k a b : Nat} (hw : wfL A B M) (hkM : k < M) (hb : bet A B k a b) : a ≠ b ∧ a < 24 ∧ b < 24 := by
  have := hw.1 k hkM
  unfold bet at hb
  omega
theorem oddN_flip {A B : Nat → Nat} {M S k a b : Nat} (hw : wfL A B M) (hkM : k < M) (hk : S.testBit k = true) (hb : bet A B k a b) (i : Nat) : (oddN A B (S ^^^ 2 ^ k) M).testBit i = if a = i ∨ b = i then !(oddN A B S M).testBit i else (oddN A B S M).testBit i := by
  have hab := (bet_ne hw hkM hb).1
  rw [oddN_del hk, if_pos hkM, tb_x, tb_x]
  unfold bet at hb
  by_cases h1 : B k = i
  · rw [if_pos h1, if_neg (show ¬ A k = i by omega), if_pos (show a = i ∨ b = i by omega)]
  · rw [if_neg h1]
    by_cases h2 : A k = i
    · rw [if_pos h2, if_pos (show a = i ∨ b = i by omega)]
    · rw [if_neg h2, if_neg (show ¬ (a = i ∨ b = i) by omega)]
theorem isJ_del {A B : Nat → Nat} {M S k p q : Nat} {J : Nat → Nat} (hw : wfL A B M) (hJ : isJ A B M S J) (hkM : k < M) (hk : S.testBit k = true) (hb : bet A B k p q) : isJ A B M (S ^^^ 2 ^ k) (flp J p q) := by
  have hpq : p ≠ q := by
    have := (hw.1 k hkM).2.2
    unfold bet at hb
    omega
  intro i j
  rw [tb_flp hpq]
  by_cases h : (p = i ∧ q = j) ∨ (p = j ∧ q = i)
  · have h2 : (J i).testBit j = true := (hJ i j).mpr ⟨k, hkM, hk, by unfold bet at hb ⊢; omega⟩
    rw [if_pos h, h2]
    constructor
    · intro w; cases w
    · rintro ⟨l, h1, h2, h3⟩
      rw [tb_x] at h2
      by_cases e : k = l
      · subst e; rw [if_pos rfl, hk] at h2; cases h2
      · rcases Nat.lt_or_gt_of_ne e with q1 | q1
        · have := hw.2 k l q1 h1
          unfold bet at hb h3
          omega
        · have := hw.2 l k q1 hkM
          unfold bet at hb h3
          omega
  · rw [if_neg h, hJ i j]
    constructor
    · rintro ⟨l, h1, h2, h3⟩
      refine ⟨l, h1, ?_, h3⟩
      rw [tb_x, if_neg]
      · exact h2
      · intro e
        subst e
        unfold bet at hb h3
        omega
    · rintro ⟨l, h1, h2, h3⟩
      refine ⟨l, h1, ?_, h3⟩
      rw [tb_x] at h2
      by_cases e : k = l
      · subst e; exact hk
      · rw [if_neg e] at h2; exact h2
/-- the odd pins behind a step are as they must be -/
theorem odd_step {A B : Nat → Nat} {M S k a b : Nat} (hw : wfL A B M) (hkM : k < M) (hk : S.testBit k = true) (hb : bet A B k a b) (ho : oddN A B S M = 0 ∨ ∃ z, z ≠ a ∧ ∀ i, (oddN A B S M).testBit i = true ↔ i = a ∨ i = z) : oddN A B (S ^^^ 2 ^ k) M = 0 ∨ ∃ z, z ≠ b ∧ ∀ i, (oddN A B (S ^^^ 2 ^ k) M).testBit i = true ↔ i = b ∨ i = z := by
  have hab := (bet_ne hw hkM hb).1
  have e := oddN_flip hw hkM hk hb
  rcases ho with h0 | ⟨z, hz, h0⟩
  · right
    refine ⟨a, hab, fun i => ?_⟩
    rw [e, h0, Nat.zero_testBit]
    by_cases h : a = i ∨ b = i
    · rw [if_pos h]; simp; omega
    · rw [if_neg h]; simp; omega
  · by_cases hzb : z = b
    · left
      refine Nat.eq_of_testBit_eq (fun i => ?_)
      rw [Nat.zero_testBit, e]
      by_cases h : a = i ∨ b = i
      · rw [if_pos h, (h0 i).mpr (by omega)]; rfl
      · rw [if_neg h, Bool.eq_false_iff]
        intro w
        have := (h0 i).mp w
        omega
    · right
      refine ⟨z, hzb, fun i => ?_⟩
      rw [e]
      by_cases h : a = i ∨ b = i
      · rw [if_pos h]
        by_cases ha : a = i
        · rw [(h0 i).mpr (by omega)]
          simp
          omega
        · have : (oddN A B S M).testBit i = false := by
            rw [Bool.eq_false_iff]
            intro w
            have := (h0 i).mp w
            omega
          rw [this]
          simp
          omega
      · rw [if_neg h, h0]
        omega
/-- there is a way on -/
theorem go_on {A B : Nat → Nat} {M S a : Nat} {J : Nat → Nat} (hw : wfL A B M) (hg : goF A B M S a J) (hne : ∃ l, l < M ∧ S.testBit l = true) : ∃ b k, k < M ∧ S.testBit k = true ∧ bet A B k a b ∧ ∀ i, flp J a b i ≠ 0 → (prt (flp J a b) b).testBit i = true := by
  obtain ⟨hJ, ha, hc, ho⟩ := hg
  have hlt := isJ_lt hw hJ
  have h1 : ∃ t, (J a).testBit t = true := by
    apply Classical.byContradiction
    intro hn
    obtain ⟨l, hl, hs⟩ := hne
    have hn2 : ∀ t, (J a).testBit t = false := fun t => by rw [Bool.eq_false_iff]; exact fun w => hn ⟨t, w⟩
    have key : ∀ i, (prt J a).testBit i = true → i = a := prt_least (X := fun i => i = a) rfl (fun i j hi hij => by subst hi; rw [hn2 j] at hij; cases hij)
    have e1 := key (A l) (hc (A l) (tb_ne.mpr ⟨B l, (hJ _ _).mpr ⟨l, hl, hs, .inl ⟨rfl, rfl⟩⟩⟩))
    have e2 := key (B l) (hc (B l) (tb_ne.mpr ⟨A l, (hJ _ _).mpr ⟨l, hl, hs, .inr ⟨rfl, rfl⟩⟩⟩))
    have := (hw.1 l hl).2.2
    omega
  -- a line that is no bridge serves
  have nob : ∀ b k, k < M → S.testBit k = true → bet A B k a b → (prt (flp J a b) b).testBit a = true → ∀ i, flp J a b i ≠ 0 → (prt (flp J a b) b).testBit i = true := by
    intro b k hkM hk hb hp i hi
    have hJ2 := isJ_del hw hJ hkM hk hb
    have hlt2 := isJ_lt hw hJ2
    have hb24 := (bet_ne hw hkM hb).2.2
    have hab := (bet_ne hw hkM hb).1
    have hne2 : J i ≠ 0 := by
      obtain ⟨j, hj⟩ := tb_ne.mp hi
      refine tb_ne.mpr ⟨j, ?_⟩
      obtain ⟨l, q1, q2, q3⟩ := (hJ2 i j).mp hj
      rw [tb_x] at q2
      refine (hJ i j).mpr ⟨l, q1, ?_, q3⟩
      by_cases e : k = l
      · subst e; exact hk
      · rw [if_neg e] at q2; exact q2
    refine prt_least (X := fun i => (prt (flp J a b) b).testBit i = true) hp (fun u v hu huv => ?_) i (hc i hne2)
    show (prt (flp J a b) b).testBit v = true
    by_cases e : (a = u ∧ b = v) ∨ (a = v ∧ b = u)
    · rcases e with ⟨_, e⟩ | ⟨e, _⟩
      · rw [← e]; exact prt_self
      · rw [← e]; exact hp
    · refine prt_clo hlt2 hb24 hu ?_
      rw [tb_flp hab, if_neg e]
      exact huv
  -- a bridge has the other odd pin behind it
  have brg : ∀ b k, k < M → S.testBit k = true → bet A B k a b → (prt (flp J a b) b).testBit a = false → ∃ z, (∀ i, (oddN A B S M).testBit i = true ↔ i = a ∨ i = z) ∧ (prt (flp J a b) b).testBit z = true := by
    intro b k hkM hk hb hp
    have hJ2 := isJ_del hw hJ hkM hk hb
    have hlt2 := isJ_lt hw hJ2
    have hb24 := (bet_ne hw hkM hb).2.2
    have hab := (bet_ne hw hkM hb).1
    have hev := odd_even (S := S ^^^ 2 ^ k) (C := prt (flp J a b) b) hw (fun l q1 q2 => by
      have w1 : (flp J a b (A l)).testBit (B l) = true := (hJ2 _ _).mpr ⟨l, q1, q2, .inl ⟨rfl, rfl⟩⟩
      have w2 : (flp J a b (B l)).testBit (A l) = true := (hJ2 _ _).mpr ⟨l, q1, q2, .inr ⟨rfl, rfl⟩⟩
      exact Bool.eq_iff_iff.mpr ⟨fun w => prt_clo hlt2 hb24 w w1, fun w => prt_clo hlt2 hb24 w w2⟩) M (Nat.le_refl _)
    have e := oddN_flip hw hkM hk hb
    have one : ∀ m : Nat, (∀ i, m.testBit i = true ↔ i = b) → cnt m 24 % 2 = 1 := by
      intro m hm
      have : m = 0 ^^^ 2 ^ b := by
        refine Nat.eq_of_testBit_eq (fun i => ?_)
        rw [tb_x, Nat.zero_testBit]
        by_cases q : b = i
        · rw [if_pos q, (hm i).mpr q.symm]; rfl
        · rw [if_neg q, Bool.eq_false_iff]; intro w; exact q ((hm i).mp w).symm
      rw [this, cnt_par hb24, cnt_zero]
    rcases ho with h0 | ⟨z, hz, h0⟩
    · exfalso
      have := one (prt (flp J a b) b &&& oddN A B (S ^^^ 2 ^ k) M) (fun i => by
        rw [Nat.testBit_and, Bool.and_eq_true, e, h0, Nat.zero_testBit]
        constructor
        · rintro ⟨w1, w2⟩
          by_cases q : a = i ∨ b = i
          · rcases q with q | q
            · subst q; rw [hp] at w1; cases w1
            · exact q.symm
          · rw [if_neg q] at w2; cases w2
        · intro q
          subst q
          exact ⟨prt_self, by rw [if_pos (Or.inr rfl)]; rfl⟩)
      omega
    · refine ⟨z, h0, ?_⟩
      by_cases hzb : z = b
      · rw [hzb]; exact prt_self
      · cases hq : (prt (flp J a b) b).testBit z
        · exfalso
          have := one (prt (flp J a b) b &&& oddN A B (S ^^^ 2 ^ k) M) (fun i => by
            rw [Nat.testBit_and, Bool.and_eq_true, e]
            constructor
            · rintro ⟨w1, w2⟩
              by_cases q : a = i ∨ b = i
              · rcases q with q | q
                · subst q; rw [hp] at w1; cases w1
                · exact q.symm
              · rw [if_neg q] at w2
                rcases (h0 i).mp w2 with q2 | q2
                · exact absurd (Or.inl q2.symm) q
                · subst q2; rw [hq] at w1; cases w1
            · intro q
              subst q
              refine ⟨prt_self, ?_⟩
              rw [if_pos (Or.inr rfl)]
              have : (oddN A B S M).testBit i = false := by
                rw [Bool.eq_false_iff]
                intro w
                have := (h0 i).mp w
                omega
              rw [this]; rfl)
          omega
        · rfl
  obtain ⟨t, ht⟩ := h1
  obtain ⟨k, hkM, hk, hb⟩ := (hJ a t).mp ht
  cases hp : (prt (flp J a t) t).testBit a
  · by_cases h2 : ∃ u, u ≠ t ∧ (J a).testBit u = true
    · obtain ⟨u, hut, hu⟩ := h2
      obtain ⟨k2, hkM2, hk2, hb2⟩ := (hJ a u).mp hu
      cases hp2 : (prt (flp J a u) u).testBit a
      · exfalso
        obtain ⟨z, hz1, hz2⟩ := brg t k hkM hk hb hp
        obtain ⟨z', hz3, hz4⟩ := brg u k2 hkM2 hk2 hb2 hp2
        have hJ1 := isJ_del hw hJ hkM hk hb
        have hJ2 := isJ_del hw hJ hkM2 hk2 hb2
        have hlt2 := isJ_lt hw hJ2
        have hu24 := (bet_ne hw hkM2 hb2).2.2
        have hau := (bet_ne hw hkM2 hb2).1
        have hat := (bet_ne hw hkM hb).1
        have hzz : z = z' := by
          have q1 := (hz1 z').mp ((hz3 z').mpr (.inr rfl))
          have q2 := (hz3 z).mp ((hz1 z).mpr (.inr rfl))
          have : (prt (flp J a t) t).testBit z = true → z ≠ a := by
            intro w e; rw [e, hp] at w; cases w
          have := this hz2
          omega
        subst hzz
        -- all behind t lies behind u
        have key : ∀ i, (prt (flp J a t) t).testBit i = true → (prt (flp J a t) t).testBit i = true ∧ ((prt (flp J a u) u).testBit i = (prt (flp J a u) u).testBit t) := by
          intro i hi
          refine ⟨hi, ?_⟩
          refine (prt_least (X := fun i => (prt (flp J a t) t).testBit i = true ∧ (prt (flp J a u) u).testBit i = (prt (flp J a u) u).testBit t) ⟨prt_self, rfl⟩ (fun x y hx hxy => ?_) i hi).2
          have ht24 := (bet_ne hw hkM hb).2.2
          have hy := prt_clo (isJ_lt hw hJ1) ht24 hx.1 hxy
          refine ⟨hy, ?_⟩
          rw [← hx.2]
          have hxa : x ≠ a := by intro e; rw [e] at hx; rw [hx.1] at hp; cases hp
          have hya : y ≠ a := by intro e; rw [e] at hy; rw [hy] at hp; cases hp
          have hxy2 : (flp J a u x).testBit y = true := by
            rw [tb_flp hau, if_neg (by omega)]
            rw [tb_flp hat, if_neg (by omega)] at hxy
            exact hxy
          exact Bool.eq_iff_iff.mpr ⟨fun w => prt_clo hlt2 hu24 w (isJ_sym hJ2 hxy2), fun w => prt_clo hlt2 hu24 w hxy2⟩
        have h3 := (key z hz2).2
        rw [hz4] at h3
        have h4 : (flp J a u t).testBit a = true := by
          rw [tb_flp hau, if_neg (by omega)]
          exact isJ_sym hJ ht
        have := prt_clo hlt2 hu24 h3.symm h4
        rw [hp2] at this
        cases this
      · exact ⟨u, k2, hkM2, hk2, hb2, nob u k2 hkM2 hk2 hb2 hp2⟩
    · -- the only line
      refine ⟨t, k, hkM, hk, hb, ?_⟩
      intro i hi
      have hJ1 := isJ_del hw hJ hkM hk hb
      have hlt1 := isJ_lt hw hJ1
      have ht24 := (bet_ne hw hkM hb).2.2
      have hat := (bet_ne hw hkM hb).1
      have hia : i ≠ a := by
        intro e
        subst e
        obtain ⟨j, hj⟩ := tb_ne.mp hi
        rw [tb_flp hat] at hj
        by_cases q : j = t
        · subst q; rw [if_pos (Or.inl ⟨rfl, rfl⟩), ht] at hj; cases hj
        · rw [if_neg (by omega)] at hj
          exact h2 ⟨j, q, hj⟩
      have hne2 : J i ≠ 0 := by
        obtain ⟨j, hj⟩ := tb_ne.mp hi
        refine tb_ne.mpr ⟨j, ?_⟩
        rw [tb_flp hat] at hj
        by_cases q : (a = i ∧ t = j) ∨ (a = j ∧ t = i)
        · rcases q with ⟨q1, q2⟩ | ⟨q1, q2⟩
          · omega
          · subst q1; subst q2; exact isJ_sym hJ ht
        · rw [if_neg q] at hj; exact hj
      have := prt_least (X := fun i => i = a ∨ (prt (flp J a t) t).testBit i = true) (.inl rfl) (fun x y hx hxy => by
        by_cases q : (a = x ∧ t = y) ∨ (a = y ∧ t = x)
        · rcases q with ⟨_, q⟩ | ⟨q, _⟩
          · right; rw [← q]; exact prt_self
          · left; exact q.symm
        · rcases hx with hx | hx
          · exfalso
            subst hx
            exact h2 ⟨y, by omega, hxy⟩
          · right
            refine prt_clo hlt1 ht24 hx ?_
            rw [tb_flp hat, if_neg q]
            exact hxy) i (hc i hne2)
      exact this.resolve_left hia
  · exact ⟨t, k, hkM, hk, hb, nob t k hkM hk hb hp⟩
/-- bits of a number, eight by eight -/
theorem and_sp {a A m M : Nat} (ha : a < 256) (hA : A < 256) : (a + 256 * m) &&& (A + 256 * M) = (a &&& A) + 256 * (m &&& M) := by
  have h1 : ∀ x y : Nat, x < 256 → ∀ j, (x + 256 * y).testBit j = if j < 8 then x.testBit j else y.testBit (j - 8) := by
    intro x y hx j
    have := Nat.testBit_two_pow_mul_add y (i := 8) hx j
    rw [Nat.add_comm]
    exact this
  have hlt : a &&& A < 256 := Nat.lt_of_le_of_lt Nat.and_le_left ha
  refine Nat.eq_of_testBit_eq (fun j => ?_)
  rw [Nat.testBit_and, h1 a m ha, h1 A M hA, h1 _ _ hlt, Nat.testBit_and, Nat.testBit_and]
  split <;> rfl
theorem and_sp3 {a A b B c C : Nat} (ha : a < 256) (hA : A < 256) (hb : b < 256) (hB : B < 256) : (a + 256 * (b + 256 * c)) &&& (A + 256 * (B + 256 * C)) = (a &&& A) + 256 * ((b &&& B) + 256 * (c &&& C)) := by
  rw [and_sp ha hA, and_sp hb hB]
def bcA (a : Nat) : Nat := a - ((a / 2) &&& 0x55)
def bcB (a : Nat) : Nat := (a &&& 0x33) + ((a / 4) &&& 0x33)
def bcC (a : Nat) : Nat := (a + a / 16) % 16
theorem bc1 : ∀ a, a < 256 → ∀ e, e < 2 → (a / 2 + 128 * e) &&& 0x55 = (a / 2) &&& 0x55 := by decide +kernel
theorem bc1b : ∀ a, a < 256 → (a / 2) &&& 0x5555 = (a / 2) &&& 0x55 := by decide +kernel
theorem bc1c : ∀ a, a < 256 → (a / 2) &&& 0x55 ≤ a := fun _ _ => Nat.le_trans Nat.and_le_left (Nat.div_le_self _ _)
theorem bc2 : ∀ a, a < 256 → ∀ e, e < 4 → (a / 4 + 64 * e) &&& 0x33 = (a / 4) &&& 0x33 := by decide +kernel
theorem bc2b : ∀ a, a < 256 → (a / 4) &&& 0x3333 = (a / 4) &&& 0x33 ∧ a &&& 0x3333 = a &&& 0x33 := by decide +kernel
theorem bc3k : (List.range 256).all (fun a => Nat.blt (bcB (bcA a)) 256 && Nat.ble (bcB (bcA a) % 16) 4 && Nat.ble (bcB (bcA a) / 16) 4) = true := by decide +kernel
theorem bc3 (a : Nat) (h : a < 256) : bcB (bcA a) < 256 ∧ bcB (bcA a) % 16 ≤ 4 ∧ bcB (bcA a) / 16 ≤ 4 := by
  have := List.all_eq_true.mp bc3k a (List.mem_range.mpr h)
  simp only [Bool.and_eq_true] at this
  exact ⟨Nat.le_of_ble_eq_true this.1.1, Nat.le_of_ble_eq_true this.1.2, Nat.le_of_ble_eq_true this.2⟩
theorem bc4 : ∀ a, a < 73 → ∀ e, e < 5 → (a + 16 * e) &&& 0x0f = a % 16 := by decide +kernel
theorem bc4b : ∀ a, a < 73 → a &&& 0x0f0f = a % 16 := by decide +kernel
theorem bc5k : (List.range 256).all (fun a => Nat.beq (bcC (bcB (bcA a))) (cnt a 8)) = true := by decide +kernel
theorem bc5 (a : Nat) (h : a < 256) : bcC (bcB (bcA a)) = cnt a 8 := Nat.eq_of_beq_eq_true (List.all_eq_true.mp bc5k a (List.mem_range.mpr h))
theorem cnt_s (m n : Nat) : cnt m (n + 1) = cnt m n + (if m.testBit n then 1 else 0) := rfl
theorem cnt_sp {a m : Nat} (ha : a < 256) : ∀ k, cnt (a + 256 * m) (8 + k) = cnt a 8 + cnt m k
  | 0 => by
    rw [show 8 + 0 = 8 from rfl, show cnt m 0 = 0 from rfl, Nat.add_zero]
    exact cnt_ext 8 (fun i hi => by
      have := Nat.testBit_two_pow_mul_add m (i := 8) ha i
      rw [Nat.add_comm, show 256 * m = 2 ^ 8 * m from rfl, this, if_pos hi])
  | k + 1 => by
    have ih := cnt_sp (m := m) ha k
    have e : (a + 256 * m).testBit (8 + k) = m.testBit k := by
      have := Nat.testBit_two_pow_mul_add m (i := 8) ha (8 + k)
      rw [Nat.add_comm, show 256 * m = 2 ^ 8 * m from rfl, this, if_neg (by omega), show 8 + k - 8 = k by omega]
    rw [show 8 + (k + 1) = (8 + k) + 1 from rfl, cnt_s _ (8 + k), cnt_s m k, ih, e, Nat.add_assoc]
def bcF (n : Nat) : Nat :=
  let s1 := n - ((n >>> 1) &&& 1431655765)
  let s2 := (s1 &&& 858993459) + ((s1 >>> 2) &&& 858993459)
  let s3 := (s2 + (s2 >>> 4)) &&& 252645135
  let s4 := s3 + (s3 >>> 8)
  let s5 := s4 + (s4 >>> 16)
  s5 &&& 63
theorem bc_1 {a b c : Nat} (ha : a < 256) (hb : b < 256) (hc : c < 256) : (a + 256 * (b + 256 * c)) - (((a + 256 * (b + 256 * c)) >>> 1) &&& 1431655765) = bcA a + 256 * (bcA b + 256 * bcA c) := by
  have e : (a + 256 * (b + 256 * c)) >>> 1 = (a / 2 + 128 * (b % 2)) + 256 * ((b / 2 + 128 * (c % 2)) + 256 * (c / 2)) := by
    rw [Nat.shiftRight_eq_div_pow]; omega
  rw [e, show (1431655765 : Nat) = 0x55 + 256 * (0x55 + 256 * 0x5555) from rfl, and_sp3 (by omega) (by omega) (by omega) (by omega), bc1 a ha _ (by omega), bc1 b hb _ (by omega), bc1b c hc]
  unfold bcA
  have := bc1c a ha
  have := bc1c b hb
  have := bc1c c hc
  omega
theorem bc_2 {a b c : Nat} (ha : a < 256) (hb : b < 256) (hc : c < 256) : ((a + 256 * (b + 256 * c)) &&& 858993459) + (((a + 256 * (b + 256 * c)) >>> 2) &&& 858993459) = bcB a + 256 * (bcB b + 256 * bcB c) := by
  have e : (a + 256 * (b + 256 * c)) >>> 2 = (a / 4 + 64 * (b % 4)) + 256 * ((b / 4 + 64 * (c % 4)) + 256 * (c / 4)) := by
    rw [Nat.shiftRight_eq_div_pow]; omega
  rw [e, show (858993459 : Nat) = 0x33 + 256 * (0x33 + 256 * 0x3333) from rfl, and_sp3 (by omega) (by omega) (by omega) (by omega), and_sp3 (by omega) (by omega) (by omega) (by omega), bc2 a ha _ (by omega), bc2 b hb _ (by omega), (bc2b c hc).1, (bc2b c hc).2]
  unfold bcB
  omega
theorem bc_3 {a b c : Nat} (ha : a < 256 ∧ a % 16 ≤ 4 ∧ a / 16 ≤ 4) (hb : b < 256 ∧ b % 16 ≤ 4 ∧ b / 16 ≤ 4) (hc : c < 256 ∧ c % 16 ≤ 4 ∧ c / 16 ≤ 4) : ((a + 256 * (b + 256 * c)) + ((a + 256 * (b + 256 * c)) >>> 4)) &&& 252645135 = bcC a + 256 * (bcC b + 256 * bcC c) := by
  have e : (a + 256 * (b + 256 * c)) + ((a + 256 * (b + 256 * c)) >>> 4) = ((a + a / 16) + 16 * (b % 16)) + 256 * (((b + b / 16) + 16 * (c % 16)) + 256 * (c + c / 16)) := by
    rw [Nat.shiftRight_eq_div_pow]; omega
  rw [e, show (252645135 : Nat) = 0x0f + 256 * (0x0f + 256 * 0x0f0f) from rfl, and_sp3 (by omega) (by omega) (by omega) (by omega), bc4 (a + a / 16) (by omega) _ (by omega), bc4 (b + b / 16) (by omega) _ (by omega), bc4b (c + c / 16) (by omega)]
  unfold bcC
  omega
theorem bcF_eq {n : Nat} (hn : n < 16777216) : bcF n = cnt n 24 := by
  have hs : n = n % 256 + 256 * (n / 256 % 256 + 256 * (n / 65536)) := by omega
  generalize ha : n % 256 = a at hs
  generalize hb : n / 256 % 256 = b at hs
  generalize hc : n / 65536 = c at hs
  have ha2 : a < 256 := by omega
  have hb2 : b < 256 := by omega
  have hc2 : c < 256 := by omega
  clear ha hb hc
  subst hs
  unfold bcF
  have l1 : ∀ x, x < 256 → bcA x < 256 := fun x h => by unfold bcA; omega
  dsimp only
  rw [bc_1 ha2 hb2 hc2, bc_2 (l1 a ha2) (l1 b hb2) (l1 c hc2), bc_3 (bc3 a ha2) (bc3 b hb2) (bc3 c hc2), bc5 a ha2, bc5 b hb2, bc5 c hc2]
  have e1 := cnt_sp (a := a) (m := b + 256 * c) ha2 16
  have e2 : cnt (b + 256 * c) 16 = cnt b 8 + cnt c 8 := cnt_sp (a := b) (m := c) hb2 8
  have c1 := cnt_le a 8
  have c2 := cnt_le b 8
  have c3 := cnt_le c 8
  show _ = cnt (a + 256 * (b + 256 * c)) (8 + 16)
  rw [e1, e2]
  have e3 : ∀ x : Nat, x &&& 63 = x % 64 := fun x => Nat.and_two_pow_sub_one_eq_mod x 6
  rw [e3, Nat.shiftRight_eq_div_pow, Nat.shiftRight_eq_div_pow]
  generalize cnt a 8 = x at *
  generalize cnt b 8 = y at *
  generalize cnt c 8 = z at *
  have q1 : (x + 256 * (y + 256 * z)) / 2 ^ 8 = y + 256 * z := by omega
  rw [q1]
  have q2 : (x + 256 * (y + 256 * z) + (y + 256 * z)) / 2 ^ 16 = z := by omega
  rw [q2]
  omega

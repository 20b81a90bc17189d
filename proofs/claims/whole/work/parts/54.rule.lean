/-! lines by a rule -/
def rlf (k s n i : Int) : Int := (k * i + s) % n
theorem rlf_in {k s n i : Int} (hn : 0 < n) : 0 ≤ rlf k s n i ∧ rlf k s n i < n := ⟨Int.emod_nonneg _ (by omega), Int.emod_lt_of_pos _ hn⟩
/-- the lines of the first m pins -/
def eP (k s n m a b : Int) : Bool := decide (a ≠ b ∧ ((a < m ∧ rlf k s n a = b) ∨ (b < m ∧ rlf k s n b = a)))
theorem eP_iff {k s n m a b : Int} : eP k s n m a b = true ↔ a ≠ b ∧ ((a < m ∧ rlf k s n a = b) ∨ (b < m ∧ rlf k s n b = a)) := by simp only [eP, decide_eq_true_eq]
theorem eP_comm (k s n m a b : Int) : eP k s n m a b = eP k s n m b a := by
  rw [Bool.eq_iff_iff, eP_iff, eP_iff]
  constructor
  · rintro ⟨h, q | q⟩
    · exact ⟨Ne.symm h, Or.inr q⟩
    · exact ⟨Ne.symm h, Or.inl q⟩
  · rintro ⟨h, q | q⟩
    · exact ⟨Ne.symm h, Or.inr q⟩
    · exact ⟨Ne.symm h, Or.inl q⟩
theorem eP_zero {k s n a b : Int} (ha : 0 ≤ a) (hb : 0 ≤ b) : eP k s n 0 a b = false := by
  rw [Bool.eq_false_iff]
  intro h
  rw [eP_iff] at h
  omega
theorem eP_self {k s n m a : Int} : eP k s n m a a = false := by
  rw [Bool.eq_false_iff]
  intro h
  rw [eP_iff] at h
  exact h.1 rfl
theorem eP_step {k s n m a b : Int} : eP k s n (m + 1) a b = true ↔ (eP k s n m a b = true ∨ (rlf k s n m ≠ m ∧ ((a = m ∧ b = rlf k s n m) ∨ (b = m ∧ a = rlf k s n m)))) := by
  rw [eP_iff, eP_iff]
  constructor
  · rintro ⟨h, q | q⟩
    · by_cases e : a = m
      · subst e; exact Or.inr ⟨fun w => h (by rw [← q.2, w]), Or.inl ⟨rfl, q.2.symm⟩⟩
      · exact Or.inl ⟨h, Or.inl ⟨by omega, q.2⟩⟩
    · by_cases e : b = m
      · subst e; exact Or.inr ⟨fun w => h (by rw [← q.2, w]), Or.inr ⟨rfl, q.2.symm⟩⟩
      · exact Or.inl ⟨h, Or.inr ⟨by omega, q.2⟩⟩
  · rintro (⟨h, q⟩ | ⟨h, q | q⟩)
    · refine ⟨h, ?_⟩
      rcases q with q | q
      · exact Or.inl ⟨by omega, q.2⟩
      · exact Or.inr ⟨by omega, q.2⟩
    · exact ⟨fun w => h (by rw [← q.2, ← w, q.1]), Or.inl ⟨by omega, by rw [q.1]; exact q.2.symm⟩⟩
    · exact ⟨fun w => h (by rw [← q.2, w, q.1]), Or.inr ⟨by omega, by rw [q.1]; exact q.2.symm⟩⟩
/-- sums over pairs a < b < n -/
def pairS (f : Int → Int → Int) (n : Nat) : Int := sumN (fun b => sumN (fun a => f a b) b.toNat) n
theorem pairS_congr {f g : Int → Int → Int} {n : Nat} (h : ∀ a b : Int, 0 ≤ a → a < b → b < n → f a b = g a b) : pairS f n = pairS g n :=
  sumN_congr (fun b b1 b2 => sumN_congr (fun a a1 a2 => h a b a1 (by omega) b2))
theorem pairS_add {e e' : Int → Int → Bool} {x y : Int} {n : Nat} (hx : 0 ≤ x) (hxy : x < y) (hy : y < n) (h0 : e x y = false) (h1 : e' x y = true) (h2 : ∀ a b : Int, 0 ≤ a → a < b → b < n → ¬ (a = x ∧ b = y) → e' a b = e a b) : pairS (fun a b => if e' a b then 1 else 0) n = pairS (fun a b => if e a b then 1 else 0) n + 1 := by
  have key : pairS (fun a b => if e' a b then 1 else 0) n = sumN (fun b => if b = y then sumN (fun a => if e a y then 1 else 0) y.toNat + 1 else sumN (fun a => if e a b then 1 else 0) b.toNat) n := by
    refine sumN_congr (fun b b1 b2 => ?_)
    by_cases hb : b = y
    · subst hb
      rw [if_pos rfl]
      have := sumN_upd (f := fun a => if e a b then 1 else 0) (s := x) (v := 1) (n := b.toNat) hx (by omega)
      rw [h0] at this
      simp only [Bool.false_eq_true, if_false] at this
      rw [show sumN (fun a => if e a b = true then 1 else 0) b.toNat - 0 + 1 = sumN (fun a => if e a b = true then 1 else 0) b.toNat + 1 by omega] at this
      rw [← this]
      refine sumN_congr (fun a a1 a2 => ?_)
      show (if e' a b = true then 1 else 0) = _
      by_cases ha : a = x
      · subst ha; rw [if_pos rfl, h1]; rfl
      · rw [if_neg ha, h2 a b a1 (by omega) b2 (fun w => ha w.1)]
    · rw [if_neg hb]
      exact sumN_congr (fun a a1 a2 => by show (if e' a b = true then 1 else 0) = _; rw [h2 a b a1 (by omega) b2 (fun w => hb w.2)])
  rw [key, sumN_upd (f := fun b => sumN (fun a => if e a b then 1 else 0) b.toNat) (by omega) hy]
  show _ = sumN (fun b => sumN (fun a => if e a b = true then 1 else 0) b.toNat) n + 1
  omega
theorem sumN_split1 (f : Int → Int → Int) : ∀ n : Nat, sumN (fun a => sumN (fun b => f a b) (n + 1)) n = sumN (fun a => sumN (fun b => f a b) n) n + sumN (fun a => f a (n : Int)) n := by
  intro n
  rw [← sumN_add]
  exact sumN_congr (fun a _ _ => rfl)
/-- a like both ways: twice the pairs -/
theorem sym_pairs {e : Int → Int → Bool} (hc : ∀ a b, e a b = e b a) (h0 : ∀ a, e a a = false) : ∀ n : Nat, sumN (fun a => sumN (fun b => if e a b then 1 else 0) n) n = 2 * pairS (fun a b => if e a b then 1 else 0) n
  | 0 => rfl
  | n + 1 => by
    have ih := sym_pairs hc h0 n
    rw [sumN_succ, sumN_split1, ih]
    have e1 : pairS (fun a b => if e a b then 1 else 0) (n + 1) = pairS (fun a b => if e a b then 1 else 0) n + sumN (fun a => if e a (n : Int) then 1 else 0) n := by
      unfold pairS
      rw [sumN_succ, Int.toNat_natCast]
    have e2 : sumN (fun b => if e (n : Int) b then 1 else 0) (n + 1) = sumN (fun a => if e a (n : Int) then 1 else 0) n := by
      rw [sumN_succ, h0]
      rw [sumN_congr (n := n) (g := fun a => if e a (n : Int) then 1 else 0) (fun b _ _ => by rw [hc])]
      simp
    rw [e1, e2]
    omega
theorem pairS_swap (f : Int → Int → Int) : ∀ n : Nat, sumN (fun a => sumN (fun d => f a (a + 1 + d)) (n - 1 - a.toNat)) n = pairS f n
  | 0 => rfl
  | n + 1 => by
    have ih := pairS_swap f n
    have e1 : pairS f (n + 1) = pairS f n + sumN (fun a => f a (n : Int)) n := by
      unfold pairS
      rw [sumN_succ, Int.toNat_natCast]
    rw [e1, ← ih, sumN_succ, show n + 1 - 1 - ((n : Int)).toNat = 0 by omega]
    show sumN _ n + 0 = _
    rw [Int.add_zero, ← sumN_add]
    refine sumN_congr (fun a a1 a2 => ?_)
    rw [show n + 1 - 1 - a.toNat = (n - 1 - a.toNat) + 1 by omega, sumN_succ, show a + 1 + ((n - 1 - a.toNat : Nat) : Int) = (n : Int) by omega]
/-- the lines are the same, if each pin is turned by t -/
def sameT (k s n t : Int) : Prop := ∀ a b, 0 ≤ a → a < n → 0 ≤ b → b < n → (eP k s n n a b = eP k s n n ((a + t) % n) ((b + t) % n))
theorem mod_mod_add {a t u n : Int} : ((a + t) % n + u) % n = (a + (t + u)) % n := by
  rw [Int.emod_add_emod, Int.add_assoc]
theorem sameT_of {k s n t : Int} (hn : 0 < n) (h : ∀ a b, 0 ≤ a → a < b → b < n → eP k s n n a b = true → eP k s n n ((a + t) % n) ((b + t) % n) = true) : sameT k s n t := by
  have h' : ∀ a b, 0 ≤ a → a < n → 0 ≤ b → b < n → eP k s n n a b = true → eP k s n n ((a + t) % n) ((b + t) % n) = true := by
    intro a b a1 a2 b1 b2 e
    rcases Int.lt_trichotomy a b with q | q | q
    · exact h a b a1 q b2 e
    · subst q; rw [eP_self] at e; cases e
    · rw [eP_comm]
      exact h b a b1 q a2 (by rw [eP_comm]; exact e)
  have it : ∀ m : Nat, ∀ a b, 0 ≤ a → a < n → 0 ≤ b → b < n → eP k s n n a b = true → eP k s n n ((a + m * t) % n) ((b + m * t) % n) = true := by
    intro m
    induction m with
    | zero =>
      intro a b a1 a2 b1 b2 e
      rw [show ((0 : Nat) : Int) * t = 0 by simp, Int.add_zero, Int.add_zero, Int.emod_eq_of_lt a1 a2, Int.emod_eq_of_lt b1 b2]; exact e
    | succ m ih =>
      intro a b a1 a2 b1 b2 e
      have := h' _ _ (Int.emod_nonneg _ (by omega)) (Int.emod_lt_of_pos _ hn) (Int.emod_nonneg _ (by omega)) (Int.emod_lt_of_pos _ hn) (ih a b a1 a2 b1 b2 e)
      rw [mod_mod_add, mod_mod_add] at this
      rw [show ((m + 1 : Nat) : Int) * t = (m : Int) * t + t by rw [show ((m + 1 : Nat) : Int) = (m : Int) + 1 by omega, Int.add_mul, Int.one_mul]]
      exact this
  intro a b a1 a2 b1 b2
  rw [Bool.eq_iff_iff]
  refine ⟨h' a b a1 a2 b1 b2, fun e => ?_⟩
  have := it (n - 1).toNat _ _ (Int.emod_nonneg _ (by omega)) (Int.emod_lt_of_pos _ hn) (Int.emod_nonneg _ (by omega)) (Int.emod_lt_of_pos _ hn) e
  rw [mod_mod_add, mod_mod_add, show ((n - 1).toNat : Int) = n - 1 by omega, show t + (n - 1) * t = n * t by rw [Int.sub_mul, Int.one_mul]; omega, Int.add_mul_emod_self_left, Int.add_mul_emod_self_left, Int.emod_eq_of_lt a1 a2, Int.emod_eq_of_lt b1 b2] at this
  exact this
theorem sameT_all {k s n : Int} : sameT k s n n := by
  intro a b a1 a2 b1 b2
  rw [Int.add_emod_right, Int.add_emod_right, Int.emod_eq_of_lt a1 a2, Int.emod_eq_of_lt b1 b2]

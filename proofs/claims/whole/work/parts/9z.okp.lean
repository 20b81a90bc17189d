/-! what may wait above what -/
def okP : List Int → Prop
  | [] => True
  | p :: P => okP P ∧ (p = 9 ∨ p = 10 ∨ p = 11 ∨ p = 12) ∧ (p = 10 → ∀ t Q, P = t :: Q → t ≠ 9 ∧ t ≠ 10) ∧ (p = 11 → ∀ t Q, P = t :: Q → t = 12)
def aoP : List Int → Nat
  | [] => 0
  | p :: P => aoP P + (if p = 10 ∨ p = 11 then 1 else 0)
theorem len_ao : ∀ P, okP P → P.length = aoP P + cnO P
  | [], _ => rfl
  | p :: P, h => by
    have ih := len_ao P h.1
    show P.length + 1 = aoP P + (if p = 10 ∨ p = 11 then 1 else 0) + (cnO P + (if p = 9 ∨ p = 12 then 1 else 0))
    rcases h.2.1 with e | e | e | e <;> subst e <;> simp <;> omega
def toP (P : List Int) : Nat := match P with
  | [] => 0
  | p :: _ => if p = 12 then 0 else if p = 11 then 1 else 2
theorem ao_le : ∀ P, okP P → aoP P ≤ 2 * cnB P + toP P
  | [], _ => Nat.le_refl _
  | p :: P, h => by
    have ih := ao_le P h.1
    have ht : toP P ≤ 2 := by
      cases P with
      | nil => decide
      | cons q Q => show (if q = 12 then 0 else if q = 11 then 1 else 2) ≤ 2; split <;> (try split) <;> omega
    show aoP P + (if p = 10 ∨ p = 11 then 1 else 0) ≤ 2 * (cnB P + (if p = 12 then 1 else 0)) + (if p = 12 then 0 else if p = 11 then 1 else 2)
    rcases h.2.1 with e | e | e | e
    · subst e; simp; omega
    · have ht2 : toP P ≤ 1 := by
        cases P with
        | nil => decide
        | cons q Q =>
          have := h.2.2.1 e q Q rfl
          have h9 := h.1.2.1
          show (if q = 12 then 0 else if q = 11 then 1 else 2) ≤ 1
          rcases h9 with c | c | c | c
          · exact absurd c this.1
          · exact absurd c this.2
          · rw [c]; decide
          · rw [c]; decide
      subst e; simp; omega
    · have ht2 : toP P = 0 := by
        cases P with
        | nil => rfl
        | cons q Q =>
          have := h.2.2.2 e q Q rfl
          show (if q = 12 then 0 else if q = 11 then 1 else 2) = 0
          rw [if_pos this]
      subst e; simp; omega
    · subst e; simp; omega
theorem cnB_cnO : ∀ P, cnB P ≤ cnO P
  | [] => Nat.le_refl _
  | p :: P => by
    have ih := cnB_cnO P
    show cnB P + (if p = 12 then 1 else 0) ≤ cnO P + (if p = 9 ∨ p = 12 then 1 else 0)
    by_cases e : p = 12
    · rw [if_pos e, if_pos (Or.inr e)]; omega
    · rw [if_neg e]; omega
theorem okP_len {P : List Int} (h : okP P) (h8 : cnO P ≤ 8) : P.length ≤ 26 := by
  have h1 := len_ao P h
  have h2 := ao_le P h
  have h3 := cnB_cnO P
  have ht : toP P ≤ 2 := by
    cases P with
    | nil => decide
    | cons q Q => show (if q = 12 then 0 else if q = 11 then 1 else 2) ≤ 2; split <;> (try split) <;> omega
  omega
theorem okP_in : ∀ P, okP P → ∀ p ∈ P, 9 ≤ p ∧ p ≤ 12
  | [], _, p, hp => by cases hp
  | x :: P, h, p, hp => by
    rcases List.mem_cons.mp hp with e | e
    · rw [e]; have := h.2.1; omega
    · exact okP_in P h.1 p e
/-- settled: what is left -/
theorem stl_ok {w : Int} (hw : w ≠ 12) : ∀ (P : List Int) (cs : CL), okP P → okP (stl w P cs).1 ∧ (∀ t Q, (stl w P cs).1 = t :: Q → t ≠ w) ∧ (stl w P cs).2.length + nbP (stl w P cs).1 = cs.length + nbP P
  | [], cs, _ => ⟨trivial, (fun t Q e => by cases e), rfl⟩
  | p :: P, cs, h => by
    by_cases e : p = w
    · subst e
      have hs : stl p (p :: P) cs = stl p P (cs ++ [(p, 0)]) := by show (if p = p then _ else _) = _; rw [if_pos rfl]
      rw [hs]
      have ih := stl_ok hw P (cs ++ [(p, 0)]) h.1
      refine ⟨ih.1, ih.2.1, ?_⟩
      have h1 : nbP (p :: P) = nbP P + 1 := by show nbP P + (if p = 12 then 0 else 1) = _; rw [if_neg hw]
      have h2 : (cs ++ [(p, (0 : Int))]).length = cs.length + 1 := by rw [List.length_append]; rfl
      rw [ih.2.2, h1, h2]
      omega
    · have hs : stl w (p :: P) cs = (p :: P, cs) := by show (if p = w then _ else _) = _; rw [if_neg e]
      rw [hs]
      exact ⟨h, (fun t Q e2 => by cases e2; exact e), rfl⟩
theorem stl_cnB {w : Int} (hw : w ≠ 12) : ∀ (P : List Int) (cs : CL), cnB (stl w P cs).1 = cnB P
  | [], cs => rfl
  | p :: P, cs => by
    by_cases e : p = w
    · subst e
      have hs : stl p (p :: P) cs = stl p P (cs ++ [(p, 0)]) := by show (if p = p then _ else _) = _; rw [if_pos rfl]
      rw [hs, stl_cnB hw P]
      show cnB P = cnB P + (if p = 12 then 1 else 0)
      rw [if_neg hw]
      rfl
    · have hs : stl w (p :: P) cs = (p :: P, cs) := by show (if p = w then _ else _) = _; rw [if_neg e]
      rw [hs]
/-- what stands below an and that is settled -/
theorem stl10_top : ∀ (P : List Int) (cs : CL), okP P → (∀ t Q, P = t :: Q → t ≠ 9) → ∀ t Q, (stl 10 P cs).1 = t :: Q → t = 11 ∨ t = 12
  | [], cs, _, _, t, Q, e => by cases e
  | p :: P, cs, h, h9, t, Q, e => by
    by_cases w : p = 10
    · have hs : stl 10 (p :: P) cs = stl 10 P (cs ++ [(10, 0)]) := by show (if p = 10 then _ else _) = _; rw [if_pos w]
      rw [hs] at e
      exact stl10_top P _ h.1 (fun t2 Q2 e2 => (h.2.2.1 w t2 Q2 e2).1) t Q e
    · have hs : stl 10 (p :: P) cs = (p :: P, cs) := by show (if p = 10 then _ else _) = _; rw [if_neg w]
      rw [hs] at e
      have h1 := h.2.1
      have h2 := h9 p P rfl
      cases e
      omega
theorem sAO_top {P : List Int} {cs : CL} (h : okP P) (h9 : ∀ t Q, P = t :: Q → t ≠ 9) : ∀ t Q, (sAO P cs).1 = t :: Q → t = 12 := by
  have h1 := stl10_top P cs h h9
  have h2 := (stl_ok (w := 10) (by decide) P cs h).1
  unfold sAO
  generalize (stl 10 P cs).1 = P1 at *
  generalize (stl 10 P cs).2 = c1 at *
  intro t Q e
  cases P1 with
  | nil => cases e
  | cons p P2 =>
    rcases h1 p P2 rfl with w | w
    · have hs : stl 11 (p :: P2) c1 = stl 11 P2 (c1 ++ [(11, 0)]) := by show (if p = 11 then _ else _) = _; rw [if_pos w]
      rw [hs] at e
      have h3 := h2.2.2.2 w
      cases P2 with
      | nil => cases e
      | cons p3 P4 =>
        have h4 := h3 p3 P4 rfl
        have hs2 : stl 11 (p3 :: P4) (c1 ++ [(11, 0)]) = (p3 :: P4, c1 ++ [(11, 0)]) := by show (if p3 = 11 then _ else _) = _; rw [if_neg (by omega)]
        rw [hs2] at e
        cases e
        exact h4
    · have hs : stl 11 (p :: P2) c1 = (p :: P2, c1) := by show (if p = 11 then _ else _) = _; rw [if_neg (by omega)]
      rw [hs] at e
      cases e
      exact w

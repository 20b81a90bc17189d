def cmB (tk vl : Nat → Int) (r x : RS) : Prop := match r with
  | .inl f => x = .inl f
  | .inr q => cmR tk vl q.1 q.2 x
theorem enc_cm {t : Int} (h : t = 60 ∨ t = 61 ∨ t = 62) : -t = enc (cmC t) 0 := by
  rcases h with rfl | rfl | rfl <;> rfl
/-- the sign of a comparison is asked for -/
def cmD (tk : Nat → Int) (r : RS) : RS := match r with
  | .inl f => .inl f
  | .inr q => if tk q.1 = 60 ∨ tk q.1 = 61 ∨ tk q.1 = 62 then .inr (q.1 + 1, q.2) else .inl (1, q.1)
section CM
variable {tk vl : Nat → Int} {r r1 r2 : RS} {t : Int} {b n : Nat}
theorem cm_dm (h : (t = toR tk r1 ∧ (t = 60 ∨ t = 62)) ∨ (t = 61 ∧ toR tk r1 ≠ 60 ∧ toR tk r1 ≠ 62)) : dmR tk t r1 = cmD tk r1 := by
  cases r1 with
  | inl f => rfl
  | inr q =>
    have e0 : toR tk (.inr q) = tk q.1 := rfl
    show (if tk q.1 = t then (.inr (q.1 + 1, q.2) : RS) else .inl (1, q.1)) = if tk q.1 = 60 ∨ tk q.1 = 61 ∨ tk q.1 = 62 then .inr (q.1 + 1, q.2) else .inl (1, q.1)
    by_cases w : tk q.1 = t
    · rw [if_pos w, if_pos (by omega)]
    · rw [if_neg w, if_neg (by omega)]
theorem cm_in {u : Nat × CL} (h : suB tk vl (cmD tk r1) (.inr u)) : ∃ q, r1 = .inr q ∧ (tk q.1 = 60 ∨ tk q.1 = 61 ∨ tk q.1 = 62) ∧ cmD tk r1 = .inr (q.1 + 1, q.2) := by
  cases r1 with
  | inl f => cases h
  | inr q =>
    by_cases w : tk q.1 = 60 ∨ tk q.1 = 61 ∨ tk q.1 = 62
    · exact ⟨q, rfl, w, if_pos w⟩
    · have e : cmD tk (.inr q) = .inl (1, q.1) := if_neg w
      rw [e] at h
      cases h
theorem cm_room (h1 : suB tk vl r r1) (hc1 : ∀ q0 q2, r = .inr q0 → r1 = .inr q2 → q2.2.length + q0.1 = q0.2.length + q2.1 ∧ q0.1 ≤ q2.1) (hroom : ∀ q, r = .inr q → b + q.2.length + n ≤ q.1) : ∀ q2, cmD tk r1 = .inr q2 → b + q2.2.length ≤ q2.1 := by
  intro q2 hq2
  cases r1 with
  | inl f => cases hq2
  | inr q =>
    cases r with
    | inl f => cases h1
    | inr q0 =>
      have hl := hc1 q0 q rfl rfl
      have hr0 := hroom q0 rfl
      by_cases w : tk q.1 = 60 ∨ tk q.1 = 61 ∨ tk q.1 = 62
      · have e : cmD tk (.inr q) = .inr (q.1 + 1, q.2) := if_pos w
        rw [e] at hq2
        cases hq2
        show b + q.2.length ≤ q.1 + 1
        omega
      · have e : cmD tk (.inr q) = .inl (1, q.1) := if_neg w
        rw [e] at hq2
        cases hq2
theorem cm_em (h1 : suB tk vl r r1) (hc1 : ∀ q0 q2, r = .inr q0 → r1 = .inr q2 → q2.2.length + q0.1 = q0.2.length + q2.1 ∧ q0.1 ≤ q2.1) (hroom : ∀ q, r = .inr q → b + q.2.length + n ≤ q.1) (h2 : suB tk vl (cmD tk r1) r2) (hc2 : ∀ q0 q2, cmD tk r1 = .inr q0 → r2 = .inr q2 → q2.2.length + q0.1 = q0.2.length + q2.1 ∧ q0.1 ≤ q2.1) : ∀ u, r2 = .inr u → -(toR tk r1) = enc (cmC (toR tk r1)) 0 ∧ b + u.2.length + 1 ≤ u.1 := by
  intro u hu
  subst hu
  obtain ⟨q, rfl, w, e⟩ := cm_in h2
  have hl2 := hc2 _ u e rfl
  dsimp only at hl2
  cases r with
  | inl f => cases h1
  | inr q0 =>
    have hl := hc1 q0 q rfl rfl
    have hr0 := hroom q0 rfl
    refine ⟨enc_cm w, ?_⟩
    omega
theorem cm_all (h1 : suB tk vl r r1) (h2 : suB tk vl (cmD tk r1) r2) : cmB tk vl r (emR (cmC (toR tk r1), 0) r2) := by
  cases r with
  | inl f =>
    have e1 : r1 = .inl f := h1
    subst e1
    have e2 : r2 = .inl f := h2
    subst e2
    rfl
  | inr q0 =>
    refine ⟨r1, h1, ?_⟩
    cases r1 with
    | inl f =>
      have e2 : r2 = .inl f := h2
      subst e2
      rfl
    | inr q =>
      show if tk q.1 = 60 ∨ tk q.1 = 61 ∨ tk q.1 = 62 then _ else _
      by_cases w : tk q.1 = 60 ∨ tk q.1 = 61 ∨ tk q.1 = 62
      · have e : cmD tk (.inr q) = .inr (q.1 + 1, q.2) := if_pos w
        rw [e] at h2
        rw [if_pos w]
        refine ⟨r2, h2, ?_⟩
        cases r2 with
        | inl f => rfl
        | inr u => rfl
      · have e : cmD tk (.inr q) = .inl (1, q.1) := if_neg w
        rw [e] at h2
        have e2 : r2 = .inl (1, q.1) := h2
        subst e2
        rw [if_neg w]
        rfl
theorem cm_len (hc1 : ∀ q0 q2, r = .inr q0 → r1 = .inr q2 → q2.2.length + q0.1 = q0.2.length + q2.1 ∧ q0.1 ≤ q2.1) (h2 : suB tk vl (cmD tk r1) r2) (hc2 : ∀ q0 q2, cmD tk r1 = .inr q0 → r2 = .inr q2 → q2.2.length + q0.1 = q0.2.length + q2.1 ∧ q0.1 ≤ q2.1) {x : Int × Int} : ∀ q0 q2, r = .inr q0 → emR x r2 = .inr q2 → q2.2.length + q0.1 = q0.2.length + q2.1 ∧ q0.1 ≤ q2.1 := by
  intro q0 q2 hr0 hq2
  cases r2 with
  | inl f => cases hq2
  | inr u =>
    cases hq2
    obtain ⟨q, rfl, w, e⟩ := cm_in h2
    have hl2 := hc2 _ u e rfl
    dsimp only at hl2
    have hl := hc1 q0 q hr0 rfl
    show (u.2 ++ [x]).length + q0.1 = q0.2.length + u.1 ∧ q0.1 ≤ u.1
    rw [List.length_append]
    show u.2.length + 1 + q0.1 = _ ∧ _
    omega
end CM

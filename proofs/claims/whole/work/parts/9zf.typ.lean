/-! what is emitted is well typed -/
def tyW : List Int → CL → Option (List Int)
  | st, [] => some st
  | st, x :: cs => match ty1 x.1 x.2 st with
    | none => none
    | some s => tyW s cs
theorem tyW_cons {st s : List Int} {x : Int × Int} {cs : CL} (h : ty1 x.1 x.2 st = some s) : tyW st (x :: cs) = tyW s cs := by
  show (match ty1 x.1 x.2 st with | none => none | some s => tyW s cs) = _
  rw [h]
theorem tyW_app : ∀ (A B : CL) (st s : List Int), tyW st A = some s → tyW st (A ++ B) = tyW s B
  | [], B, st, s, h => by cases h; rfl
  | x :: A, B, st, s, h => by
    cases e : ty1 x.1 x.2 st with
    | none =>
      have : tyW st (x :: A) = none := by
        show (match ty1 x.1 x.2 st with | none => none | some s => tyW s A) = _
        rw [e]
      rw [this] at h
      cases h
    | some s1 =>
      rw [tyW_cons e] at h
      rw [List.cons_append, tyW_cons e]
      exact tyW_app A B s1 s h
theorem tyW_snoc {cs : CL} {x : Int × Int} {st s : List Int} (h : tyW [] cs = some st) (h1 : ty1 x.1 x.2 st = some s) : tyW [] (cs ++ [x]) = some s := by
  rw [tyW_app cs [x] [] st h, tyW_cons h1]
  rfl
theorem ty1_2 {o v x y : Int} {u : List Int} (h0 : o ≠ 0) (h1 : o ≠ 1) : ty1 o v (x :: y :: u) = (if o = 9 then (if x = 1 then some (1 :: y :: u) else none) else if o = 2 ∨ o = 3 ∨ o = 4 then (if x ≠ 1 ∧ y ≠ 1 then some (0 :: u) else none) else if o = 5 then (if x = 2 ∧ y ≠ 1 then some (0 :: u) else none) else if o = 6 ∨ o = 7 ∨ o = 8 then (if x ≠ 1 ∧ y ≠ 1 then some (1 :: u) else none) else if o = 10 ∨ o = 11 then (if x = 1 ∧ y = 1 then some (1 :: u) else none) else none) := by
  unfold ty1
  rw [if_neg h0, if_neg h1]
theorem ty1_ar {o v x y : Int} {u : List Int} (ho : o = 2 ∨ o = 3 ∨ o = 4) (hx : x ≠ 1) (hy : y ≠ 1) : ty1 o v (x :: y :: u) = some (0 :: u) := by
  rw [ty1_2 (by omega) (by omega), if_neg (by omega), if_pos ho, if_pos ⟨hx, hy⟩]
theorem ty1_dv {v y : Int} {u : List Int} (hy : y ≠ 1) : ty1 5 v (2 :: y :: u) = some (0 :: u) := by
  rw [ty1_2 (by decide) (by decide), if_neg (by decide), if_neg (by decide), if_pos rfl, if_pos ⟨rfl, hy⟩]
theorem ty1_cm {o v x y : Int} {u : List Int} (ho : o = 6 ∨ o = 7 ∨ o = 8) (hx : x ≠ 1) (hy : y ≠ 1) : ty1 o v (x :: y :: u) = some (1 :: u) := by
  rw [ty1_2 (by omega) (by omega), if_neg (by omega), if_neg (by omega), if_neg (by omega), if_pos ho, if_pos ⟨hx, hy⟩]
theorem ty1_bo {o v : Int} {u : List Int} (ho : o = 10 ∨ o = 11) : ty1 o v (1 :: 1 :: u) = some (1 :: u) := by
  rw [ty1_2 (by omega) (by omega), if_neg (by omega), if_neg (by omega), if_neg (by omega), if_neg (by omega), if_pos ho, if_pos ⟨rfl, rfl⟩]
theorem ty1_no {v : Int} {u : List Int} : ty1 9 v (1 :: u) = some (1 :: u) := by
  unfold ty1
  rw [if_neg (by decide), if_neg (by decide)]
  show (if (9 : Int) = 9 then (if (1 : Int) = 1 then some (1 :: u) else none) else _) = _
  rw [if_pos rfl, if_pos rfl]
theorem ty1_nm {v : Int} {st : List Int} (hv : 0 ≤ v ∧ v ≤ 9999) (hl : st.length ≤ 30) : ty1 0 v st = some ((if v = 0 then 0 else 2) :: st) := by
  unfold ty1
  rw [if_pos rfl, if_pos ⟨hv.1, hv.2, hl⟩]
theorem ty1_fc {v : Int} {st : List Int} (hv : 0 ≤ v ∧ v < 8) (hl : st.length ≤ 30) : ty1 1 v st = some (0 :: st) := by
  unfold ty1
  rw [if_neg (by decide), if_pos rfl, if_pos ⟨hv.1, hv.2, hl⟩]
section TYP
variable {tk vl : Nat → Int}
theorem un_ty (hv : ∀ i, 0 ≤ vl i ∧ vl i ≤ 9999) {j : Nat} {cs : CL} {q : Nat × CL} {st : List Int} (h : unR tk vl j cs = .inr q) (hc : tyW [] cs = some st) (hl : st.length ≤ 30) : ∃ t, t ≠ 1 ∧ tyW [] q.2 = some (t :: st) := by
  unfold unR at h
  by_cases w1 : tk j = 20
  · rw [if_pos w1] at h
    cases h
    refine ⟨if vl j = 0 then 0 else 2, ?_, tyW_snoc hc (ty1_nm (hv j) hl)⟩
    split <;> decide
  · rw [if_neg w1] at h
    by_cases w2 : 6 ≤ tk j ∧ tk j < 14
    · rw [if_pos w2] at h
      cases h
      exact ⟨0, by decide, tyW_snoc hc (ty1_fc (by omega) hl)⟩
    · rw [if_neg w2] at h; cases h
def sTy (st : List Int) (s : Nat × CL × Int) : Prop := (s.2.2 = 0 ∧ ∃ x, x ≠ 1 ∧ tyW [] s.2.1 = some (x :: st)) ∨ ((s.2.2 = 2 ∨ s.2.2 = 3) ∧ ∃ x y, x ≠ 1 ∧ y ≠ 1 ∧ tyW [] s.2.1 = some (x :: y :: st))
theorem sTy_set {st : List Int} {s : Nat × CL × Int} (h : sTy st s) : ∃ x, x ≠ 1 ∧ tyW [] (s.2.1 ++ wlR s.2.2) = some (x :: st) := by
  rcases h with ⟨h1, x, h2, h3⟩ | ⟨h1, x, y, h2, h3, h4⟩
  · refine ⟨x, h2, ?_⟩
    rw [h1, show wlR 0 = [] from rfl, List.append_nil]
    exact h3
  · refine ⟨0, by decide, ?_⟩
    have : wlR s.2.2 = [(s.2.2, 0)] := by unfold wlR; rw [if_neg (by omega)]
    rw [this]
    exact tyW_snoc h4 (ty1_ar (by omega) h2 h3)
theorem sTy_step (hv : ∀ i, 0 ≤ vl i ∧ vl i ≤ 9999) {st : List Int} {s s2 : Nat × CL × Int} (hl : st.length ≤ 28) (h : sTy st s) (hs : sstR tk vl s = .inr s2) : sTy st s2 := by
  have hset := sTy_set h
  unfold sstR at hs
  by_cases w1 : tk s.1 = 42
  · rw [if_pos w1] at hs
    cases e : unR tk vl (s.1 + 1) s.2.1 with
    | inl f => rw [e] at hs; cases hs
    | inr q =>
      rw [e] at hs
      cases hs
      rcases h with ⟨h1, x, h2, h3⟩ | ⟨h1, x, y, h2, h3, h4⟩
      · obtain ⟨t, t1, t2⟩ := un_ty hv e h3 (by show st.length + 1 ≤ 30; omega)
        exact Or.inl ⟨h1, 0, by decide, tyW_snoc t2 (ty1_ar (by decide) t1 h2)⟩
      · obtain ⟨t, t1, t2⟩ := un_ty hv e h4 (by show st.length + 1 + 1 ≤ 30; omega)
        exact Or.inr ⟨h1, 0, y, by decide, h3, tyW_snoc t2 (ty1_ar (by decide) t1 h2)⟩
  · rw [if_neg w1] at hs
    by_cases w2 : tk s.1 = 47
    · rw [if_pos w2] at hs
      by_cases w3 : tk (s.1 + 1) ≠ 20
      · rw [if_pos w3] at hs; cases hs
      · rw [if_neg w3] at hs
        by_cases w4 : vl (s.1 + 1) = 0
        · rw [if_pos w4] at hs; cases hs
        · rw [if_neg w4] at hs
          cases hs
          have e2 : (if vl (s.1 + 1) = 0 then (0 : Int) else 2) = 2 := if_neg w4
          rcases h with ⟨h1, x, h2, h3⟩ | ⟨h1, x, y, h2, h3, h4⟩
          · have t2 := tyW_snoc (x := ((0 : Int), vl (s.1 + 1))) h3 (ty1_nm (st := x :: st) (hv (s.1 + 1)) (by show st.length + 1 ≤ 30; omega))
            rw [e2] at t2
            exact Or.inl ⟨h1, 0, by decide, tyW_snoc t2 (ty1_dv h2)⟩
          · have t2 := tyW_snoc (x := ((0 : Int), vl (s.1 + 1))) h4 (ty1_nm (st := x :: y :: st) (hv (s.1 + 1)) (by show st.length + 1 + 1 ≤ 30; omega))
            rw [e2] at t2
            exact Or.inr ⟨h1, 0, y, by decide, h3, tyW_snoc t2 (ty1_dv h2)⟩
    · rw [if_neg w2] at hs
      by_cases w3 : tk s.1 = 43 ∨ tk s.1 = 45
      · rw [if_pos w3] at hs
        obtain ⟨x, h2, h3⟩ := hset
        cases e : unR tk vl (s.1 + 1) (s.2.1 ++ wlR s.2.2) with
        | inl f => rw [e] at hs; cases hs
        | inr q =>
          rw [e] at hs
          cases hs
          obtain ⟨t, t1, t2⟩ := un_ty hv e h3 (by show st.length + 1 ≤ 30; omega)
          refine Or.inr ⟨?_, t, x, t1, h2, t2⟩
          show (if tk s.1 = 43 then (2 : Int) else 3) = 2 ∨ (if tk s.1 = 43 then (2 : Int) else 3) = 3
          split
          · exact Or.inl rfl
          · exact Or.inr rfl
      · rw [if_neg w3] at hs; cases hs
theorem sTy_done {st : List Int} {s : Nat × CL × Int} {u : Nat × CL} (h : sTy st s) (hs : sstR tk vl s = .inl (.inr u)) : ∃ x, x ≠ 1 ∧ tyW [] u.2 = some (x :: st) := by
  have hset := sTy_set h
  unfold sstR at hs
  by_cases w1 : tk s.1 = 42
  · rw [if_pos w1] at hs
    cases e : unR tk vl (s.1 + 1) s.2.1 <;> rw [e] at hs <;> cases hs
  · rw [if_neg w1] at hs
    by_cases w2 : tk s.1 = 47
    · rw [if_pos w2] at hs
      split at hs
      · cases hs
      · split at hs <;> cases hs
    · rw [if_neg w2] at hs
      by_cases w3 : tk s.1 = 43 ∨ tk s.1 = 45
      · rw [if_pos w3] at hs
        cases e : unR tk vl (s.1 + 1) (s.2.1 ++ wlR s.2.2) <;> rw [e] at hs <;> cases hs
      · rw [if_neg w3] at hs
        cases hs
        exact hset
theorem sR_ty (hv : ∀ i, 0 ≤ vl i ∧ vl i ≤ 9999) {st : List Int} (hl : st.length ≤ 28) : ∀ n s r, itR (fun s o => o = sstR tk vl s) n s r → sTy st s → ∀ u, r = .inr u → ∃ x, x ≠ 1 ∧ tyW [] u.2 = some (x :: st)
  | 0, _, _, h, _, _, _ => absurd h id
  | n + 1, s, r, h, hs, u, hu => by
    rcases h with h | ⟨s2, h, h2⟩
    · subst hu
      exact sTy_done hs h.symm
    · exact sR_ty hv hl n s2 r h2 (sTy_step hv hl hs h.symm) u hu
theorem suR_ty (hv : ∀ i, 0 ≤ vl i ∧ vl i ≤ 9999) {st : List Int} (hl : st.length ≤ 28) {j : Nat} {cs : CL} {u : Nat × CL} (hc : tyW [] cs = some st) (h : suR tk vl j cs (.inr u)) : ∃ x, x ≠ 1 ∧ tyW [] u.2 = some (x :: st) := by
  unfold suR at h
  cases e : unR tk vl j cs with
  | inl f => rw [e] at h; cases h
  | inr q =>
    rw [e] at h
    obtain ⟨n, hn⟩ := h
    obtain ⟨t, t1, t2⟩ := un_ty hv e hc (by omega)
    exact sR_ty hv hl n _ _ hn (Or.inl ⟨rfl, t, t1, t2⟩) u rfl
theorem cmR_ty (hv : ∀ i, 0 ≤ vl i ∧ vl i ≤ 9999) {st : List Int} (hl : st.length ≤ 27) {j : Nat} {cs : CL} {u : Nat × CL} (hc : tyW [] cs = some st) (h : cmR tk vl j cs (.inr u)) : tyW [] u.2 = some (1 :: st) := by
  obtain ⟨r1, h1, h2⟩ := h
  cases r1 with
  | inl f => cases h2
  | inr q =>
    dsimp only at h2
    by_cases w : tk q.1 = 60 ∨ tk q.1 = 61 ∨ tk q.1 = 62
    · rw [if_pos w] at h2
      obtain ⟨r2, h3, h4⟩ := h2
      cases r2 with
      | inl f => cases h4
      | inr v =>
        cases h4
        obtain ⟨x, x1, x2⟩ := suR_ty hv (by omega) hc h1
        obtain ⟨y, y1, y2⟩ := suR_ty hv (st := x :: st) (by show st.length + 1 ≤ 28; omega) x2 h3
        refine tyW_snoc y2 (ty1_cm ?_ y1 x1)
        show cmC (tk q.1) = 6 ∨ cmC (tk q.1) = 7 ∨ cmC (tk q.1) = 8
        unfold cmC
        split
        · exact Or.inl rfl
        · split
          · exact Or.inr (Or.inl rfl)
          · exact Or.inr (Or.inr rfl)
    · rw [if_neg w] at h2; cases h2
theorem stl_ty {w : Int} (hw : w = 9 ∨ w = 10 ∨ w = 11) : ∀ (P : List Int) (cs : CL), tyW [] cs = some (List.replicate (aoP P + 1) 1) → tyW [] (stl w P cs).2 = some (List.replicate (aoP (stl w P cs).1 + 1) 1)
  | [], cs, h => h
  | p :: P, cs, h => by
    by_cases e : p = w
    · subst e
      rw [stl_y]
      refine stl_ty hw P _ ?_
      have ha : aoP (p :: P) = aoP P + (if p = 10 ∨ p = 11 then 1 else 0) := rfl
      rw [ha] at h
      rcases hw with w9 | w10
      · rw [if_neg (by omega), Nat.add_zero] at h
        subst w9
        exact tyW_snoc h ty1_no
      · rw [if_pos w10] at h
        exact tyW_snoc h (ty1_bo w10)
    · rw [stl_n e]; exact h
def bTy (s : BS) : Prop := okP s.2.2.1 ∧ cnO s.2.2.1 ≤ 8 ∧ (s.1 = false → ∀ t Q, s.2.2.1 = t :: Q → t ≠ 9) ∧ tyW [] s.2.2.2 = some (List.replicate (aoP s.2.2.1 + (if s.1 = true then 0 else 1)) 1)
theorem ao_18 {P : List Int} (h : okP P) (h8 : cnO P ≤ 8) : aoP P ≤ 18 := by
  have h2 := ao_le P h
  have h3 := cnB_cnO P
  have ht : toP P ≤ 2 := by
    cases P with
    | nil => decide
    | cons q Q => show (if q = 12 then 0 else if q = 11 then 1 else 2) ≤ 2; split <;> (try split) <;> omega
  omega
theorem sAO_ty {P : List Int} {cs : CL} (h : tyW [] cs = some (List.replicate (aoP P + 1) 1)) : tyW [] (sAO P cs).2 = some (List.replicate (aoP (sAO P cs).1 + 1) 1) := by
  unfold sAO
  exact stl_ty (by omega) _ _ (stl_ty (by omega) P cs h)
theorem sAO_nil {P : List Int} {cs : CL} (h : okP P) (h9 : ∀ t Q, P = t :: Q → t ≠ 9) (hb : cnB (sAO P cs).1 = 0) : (sAO P cs).1 = [] := by
  have htp := sAO_top (cs := cs) h h9
  cases hP2 : (sAO P cs).1 with
  | nil => rfl
  | cons t Q =>
    rw [hP2] at hb
    have := htp t Q hP2
    replace hb : cnB Q + (if t = 12 then 1 else 0) = 0 := hb
    rw [if_pos this] at hb
    omega
theorem bTy_step (hv : ∀ i, 0 ≤ vl i ∧ vl i ≤ 9999) {s s2 : BS} (h : bTy s) (hs : bst tk vl s (.inr s2)) : bTy s2 := by
  obtain ⟨due, j, P, cs⟩ := s
  obtain ⟨a1, a2, a3, a4⟩ := h
  dsimp only at a1 a2 a3 a4
  unfold bst at hs
  dsimp only at hs
  cases due with
  | true =>
    rw [if_pos rfl] at hs a4
    rw [Nat.add_zero] at a4
    by_cases w2 : tk j = 5 ∨ tk j = 40
    · rw [if_pos w2] at hs
      by_cases w3 : cnO P = 8
      · rw [if_pos w3] at hs; cases hs
      · rw [if_neg w3] at hs
        cases hs
        obtain ⟨p, hp⟩ : ∃ p : Int, p = (if tk j = 5 then 9 else 12) := ⟨_, rfl⟩
        have hp2 : p = 9 ∨ p = 12 := by rw [hp]; split <;> omega
        rw [← hp]
        refine ⟨⟨a1, by omega, fun e => by omega, fun e => by omega⟩, ?_, (fun e => by cases e), ?_⟩
        · show cnO P + (if p = 9 ∨ p = 12 then 1 else 0) ≤ 8
          split <;> omega
        · show tyW [] cs = some (List.replicate (aoP P + (if p = 10 ∨ p = 11 then 1 else 0) + 0) 1)
          rw [if_neg (by omega)]
          exact a4
    · rw [if_neg w2] at hs
      obtain ⟨r, q1, q2⟩ := hs
      cases r with
      | inl f => cases q2
      | inr q =>
        cases q2
        have hl := ao_18 a1 a2
        have ht := cmR_ty hv (by rw [List.length_replicate]; omega) a4 q1
        have hst := stl_ok (w := 9) (by decide) P q.2 a1
        have hcO := stl_cnO (w := 9) P q.2
        exact ⟨hst.1, Nat.le_trans hcO a2, fun _ => hst.2.1, stl_ty (w := 9) (by omega) P q.2 ht⟩
  | false =>
    rw [if_neg (by decide)] at hs a4
    have hst := stl_ok (w := 10) (by decide) P cs a1
    have htp := stl10_top P cs a1 (a3 rfl)
    have hcO := stl_cnO (w := 10) P cs
    have hsa := sAO_ok a1 cs
    have htp2 := sAO_top (cs := cs) a1 (a3 rfl)
    by_cases w2 : tk j = 4
    · rw [if_pos w2] at hs
      cases hs
      refine ⟨⟨hst.1, by omega, fun _ t Q e => ?_, fun e => by omega⟩, ?_, (fun e => by cases e), ?_⟩
      · have := htp t Q e; omega
      · show cnO (stl 10 P cs).1 + (if (10 : Int) = 9 ∨ (10 : Int) = 12 then 1 else 0) ≤ 8
        rw [if_neg (by decide)]; omega
      · show tyW [] (stl 10 P cs).2 = some (List.replicate (aoP (stl 10 P cs).1 + (if (10 : Int) = 10 ∨ (10 : Int) = 11 then 1 else 0) + 0) 1)
        rw [if_pos (by decide)]
        exact stl_ty (w := 10) (by omega) P cs a4
    · rw [if_neg w2] at hs
      by_cases w3 : tk j = 3
      · rw [if_pos w3] at hs
        cases hs
        refine ⟨⟨hsa.1, by omega, fun e => by omega, fun _ t Q e => htp2 t Q e⟩, ?_, (fun e => by cases e), ?_⟩
        · show cnO (sAO P cs).1 + (if (11 : Int) = 9 ∨ (11 : Int) = 12 then 1 else 0) ≤ 8
          rw [if_neg (by decide)]; omega
        · show tyW [] (sAO P cs).2 = some (List.replicate (aoP (sAO P cs).1 + (if (11 : Int) = 10 ∨ (11 : Int) = 11 then 1 else 0) + 0) 1)
          rw [if_pos (by decide)]
          exact sAO_ty a4
      · rw [if_neg w3] at hs
        by_cases w4 : cnB (sAO P cs).1 = 0
        · rw [if_pos w4] at hs; cases hs
        · rw [if_neg w4] at hs
          by_cases w5 : tk j = 41
          · rw [if_pos w5] at hs
            cases hs
            have hty := sAO_ty a4
            cases hP2 : (sAO P cs).1 with
            | nil => rw [hP2] at w4; exact absurd rfl w4
            | cons t Q =>
              have ht := htp2 t Q hP2
              subst ht
              rw [hP2] at hsa hty
              have hty2 : tyW [] (sAO P cs).2 = some (List.replicate (aoP Q + 1) 1) := by
                rw [hty]
                show some (List.replicate (aoP Q + (if (12 : Int) = 10 ∨ (12 : Int) = 11 then 1 else 0) + 1) 1) = _
                rw [if_neg (by decide), Nat.add_zero]
              have hq := stl_ok (w := 9) (by decide) Q (sAO P cs).2 hsa.1.1
              have hcQ := stl_cnO (w := 9) Q (sAO P cs).2
              have hc1 : cnO (12 :: Q) = cnO Q + 1 := by show cnO Q + (if (12 : Int) = 9 ∨ (12 : Int) = 12 then 1 else 0) = _; rw [if_pos (by decide)]
              have hle : cnO (stl 9 Q (sAO P cs).2).1 ≤ 8 := by have := hsa.2.2.1; omega
              exact ⟨hq.1, hle, fun _ => hq.2.1, stl_ty (w := 9) (by omega) Q _ hty2⟩
          · rw [if_neg w5] at hs; cases hs
theorem bTy_done {s : BS} {u : Nat × CL} (h : bTy s) (hs : bst tk vl s (.inl (.inr u))) : tyW [] u.2 = some [1] := by
  obtain ⟨due, j, P, cs⟩ := s
  obtain ⟨a1, a2, a3, a4⟩ := h
  dsimp only at a1 a2 a3 a4
  unfold bst at hs
  dsimp only at hs
  cases due with
  | true =>
    rw [if_pos rfl] at hs
    by_cases w2 : tk j = 5 ∨ tk j = 40
    · rw [if_pos w2] at hs
      by_cases w3 : cnO P = 8
      · rw [if_pos w3] at hs; cases hs
      · rw [if_neg w3] at hs; cases hs
    · rw [if_neg w2] at hs
      obtain ⟨r, q1, q2⟩ := hs
      cases r with
      | inl f => cases q2
      | inr q => cases q2
  | false =>
    rw [if_neg (by decide)] at hs a4
    by_cases w2 : tk j = 4
    · rw [if_pos w2] at hs; cases hs
    · rw [if_neg w2] at hs
      by_cases w3 : tk j = 3
      · rw [if_pos w3] at hs; cases hs
      · rw [if_neg w3] at hs
        by_cases w4 : cnB (sAO P cs).1 = 0
        · rw [if_pos w4] at hs
          cases hs
          have hty := sAO_ty a4
          rw [sAO_nil a1 (a3 rfl) w4] at hty
          exact hty
        · rw [if_neg w4] at hs
          by_cases w5 : tk j = 41
          · rw [if_pos w5] at hs; cases hs
          · rw [if_neg w5] at hs; cases hs
theorem bR_tyI (hv : ∀ i, 0 ≤ vl i ∧ vl i ≤ 9999) : ∀ m s r, itR (bst tk vl) m s r → bTy s → ∀ u, r = .inr u → tyW [] u.2 = some [1]
  | 0, _, _, h, _, _, _ => absurd h id
  | m + 1, s, r, h, hs, u, hu => by
    rcases h with h | ⟨s2, h, h2⟩
    · subst hu
      exact bTy_done hs h
    · exact bR_tyI hv m s2 r h2 (bTy_step hv hs h) u hu
theorem bR_ty (hv : ∀ i, 0 ≤ vl i ∧ vl i ≤ 9999) {j : Nat} {u : Nat × CL} (h : bR tk vl (true, j, [], []) (.inr u)) : tyW [] u.2 = some [1] := by
  obtain ⟨m, hm⟩ := h
  exact bR_tyI hv m _ _ hm ⟨trivial, Nat.zero_le _, (fun e => by cases e), rfl⟩ u rfl
theorem lnS_ty (hv : ∀ i, 0 ≤ vl i ∧ vl i ≤ 9999) {j : Nat} {n : Int} {u : Nat × CL} (h : lnS tk vl j n (.inr u)) : u.2 = [] ∨ tyW [] u.2 = some [1] := by
  unfold lnS at h
  by_cases w1 : tk j ≠ 0 ∧ tk j ≠ 1
  · rw [if_pos w1] at h; cases h
  · rw [if_neg w1] at h
    by_cases w2 : 16 ≤ n
    · rw [if_pos w2] at h; cases h
    · rw [if_neg w2] at h
      by_cases w3 : tk (j + 1) = 2
      · rw [if_pos w3] at h
        obtain ⟨r, q1, q2⟩ := h
        cases r with
        | inl f => cases q2
        | inr q =>
          dsimp only at q2
          by_cases w4 : tk q.1 = 59
          · rw [if_pos w4] at q2
            cases q2
            have h5 := bR_ty hv q1
            exact Or.inr h5
          · rw [if_neg w4] at q2; cases q2
      · rw [if_neg w3] at h
        by_cases w4 : tk (j + 1) = 59
        · rw [if_pos w4] at h; cases h; exact Or.inl rfl
        · rw [if_neg w4] at h; cases h
theorem tR_tyI (hv : ∀ i, 0 ≤ vl i ∧ vl i ≤ 9999) : ∀ m s r, itR (txt1 tk vl) m s r → (∀ x ∈ s.2, x.2 = [] ∨ tyW [] x.2 = some [1]) → ∀ ls, r = .inr ls → ∀ x ∈ ls, x.2 = [] ∨ tyW [] x.2 = some [1]
  | 0, _, _, h, _, _, _ => absurd h id
  | m + 1, s, r, h, hs, ls, hl => by
    rcases h with h | ⟨s2, h, h2⟩
    · subst hl
      unfold txt1 at h
      by_cases w : tk s.1 = 21
      · rw [if_pos w] at h; cases h; exact hs
      · rw [if_neg w] at h
        obtain ⟨q, q1, q2⟩ := h
        cases q with
        | inl f => cases q2
        | inr u => cases q2
    · refine tR_tyI hv m s2 r h2 ?_ ls hl
      unfold txt1 at h
      by_cases w : tk s.1 = 21
      · rw [if_pos w] at h; cases h
      · rw [if_neg w] at h
        obtain ⟨q, q1, q2⟩ := h
        cases q with
        | inl f => cases q2
        | inr u =>
          cases q2
          intro x hx
          rcases List.mem_append.mp hx with e | e
          · exact hs x e
          · rw [List.mem_singleton.mp e]
            exact lnS_ty hv q1
theorem tR_ty (hv : ∀ i, 0 ≤ vl i ∧ vl i ≤ 9999) {ls : List (Int × CL)} (h : tR1 tk vl (0, []) (.inr ls)) : ∀ x ∈ ls, x.2 = [] ∨ tyW [] x.2 = some [1] := by
  obtain ⟨m, hm⟩ := h
  exact tR_tyI hv m _ _ hm (fun x hx => by cases hx) ls rfl
end TYP
theorem vlT_rng (T : Nat → Int) (n : Nat) (u : Nat) : 0 ≤ vlT T n u ∧ vlT T n u ≤ 9999 := by
  unfold vlT
  split
  · rename_i w; exact vlN_rng w
  · decide
theorem tyW_none : ∀ (A B : CL) (st : List Int), tyW st A = none → tyW st (A ++ B) = none
  | [], B, st, h => by cases h
  | x :: A, B, st, h => by
    cases e : ty1 x.1 x.2 st with
    | none =>
      show (match ty1 x.1 x.2 st with | none => none | some s => tyW s (A ++ B)) = _
      rw [e]
    | some s1 =>
      rw [tyW_cons e] at h
      rw [List.cons_append, tyW_cons e]
      exact tyW_none A B s1 h
/-- over functions -/
theorem typ_tyW {op arg : Int → Int} {a : Int} : ∀ (cs : CL) (k : Nat), k ≤ cs.length → (∀ (i : Nat) (x : Int × Int), cs[i]? = some x → op (a + (i : Int)) = x.1 ∧ arg (a + (i : Int)) = x.2) → typ op arg a k = tyW [] (cs.take k)
  | cs, 0, _, _ => by rw [List.take_zero]; rfl
  | cs, k + 1, hk, h => by
    have ih := typ_tyW (op := op) (arg := arg) (a := a) cs k (by omega) h
    have hkl : k < cs.length := by omega
    have h1 := h k cs[k] (List.getElem?_eq_getElem hkl)
    show (typ op arg a k).bind (ty1 (op (a + (k : Int))) (arg (a + (k : Int)))) = _
    rw [ih, h1.1, h1.2]
    have e : cs.take (k + 1) = cs.take k ++ [cs[k]] := by
      rw [List.take_succ_eq_append_getElem hkl]
    rw [e]
    cases e2 : tyW [] (cs.take k) with
    | none =>
      rw [tyW_none _ _ _ e2]
      rfl
    | some st =>
      rw [tyW_app _ _ _ _ e2]
      show ty1 cs[k].1 cs[k].2 st = _
      cases e3 : ty1 cs[k].1 cs[k].2 st with
      | none =>
        show none = (match ty1 cs[k].1 cs[k].2 st with | none => none | some s => tyW s [])
        rw [e3]
      | some s => rw [tyW_cons e3]; rfl

def nbP : List Int → Nat
  | [] => 0
  | p :: P => nbP P + (if p = 12 then 0 else 1)
def onR (tk vl : Nat → Int) (P : List Int) (r r2 : RS) : Prop := match r with
  | .inl f => r2 = .inl f
  | .inr q => match r2 with
    | .inl f => bR tk vl (true, q.1, P, q.2) (.inl f)
    | .inr u => (∀ x, bR tk vl (true, q.1, P, q.2) x ↔ bR tk vl (dCn u.1 P u.2) x) ∧ u.2.length + q.1 ≤ q.2.length + u.1 ∧ q.1 ≤ u.1
def alR (tk vl : Nat → Int) (P : List Int) (r r2 : RS) : Prop := match r with
  | .inl f => r2 = .inl f
  | .inr q => match r2 with
    | .inl f => bR tk vl (true, q.1, P, q.2) (.inl f)
    | .inr u => (∀ x, bR tk vl (true, q.1, P, q.2) x ↔ bR tk vl (false, u.1, P, u.2) x) ∧ u.2.length + q.1 ≤ q.2.length + u.1 ∧ q.1 ≤ u.1
theorem on_al {tk vl : Nat → Int} {P : List Int} {r r2 : RS} (hP : ∀ p Q, P = p :: Q → p ≠ 9) (h : onR tk vl P r r2) : alR tk vl P r r2 := by
  cases r with
  | inl f => exact h
  | inr q =>
    cases r2 with
    | inl f => exact h
    | inr u =>
      obtain ⟨h1, h2⟩ := h
      refine ⟨fun x => ?_, h2⟩
      rw [h1 x, dCn_no hP]
theorem stl_no {w : Int} {P : List Int} {cs : CL} (hP : ∀ p Q, P = p :: Q → p ≠ w) : stl w P cs = (P, cs) := by
  cases P with
  | nil => rfl
  | cons p Q => show (if p = w then _ else _) = _; rw [if_neg (hP p Q rfl)]
theorem sAO_no {P : List Int} {cs : CL} (h1 : ∀ p Q, P = p :: Q → p ≠ 10) (h2 : ∀ p Q, P = p :: Q → p ≠ 11) : sAO P cs = (P, cs) := by
  unfold sAO
  rw [stl_no h1, stl_no h2]
def wP (w : Int) (P : List Int) : List Int := if w = 0 then P else 11 :: P
/-- a condition half read: w is 1 where an or waits -/
def coR (tk vl : Nat → Int) (P : List Int) (w : Int) (r r2 : RS) : Prop := match r with
  | .inl f => r2 = .inl f
  | .inr q => match r2 with
    | .inl f => bR tk vl (true, q.1, P, q.2) (.inl f)
    | .inr u => (∀ x, bR tk vl (true, q.1, P, q.2) x ↔ bR tk vl (false, u.1, wP w P, u.2) x) ∧ u.2.length + (if w = 0 then 0 else 1) + q.1 ≤ q.2.length + u.1 ∧ q.1 ≤ u.1
def wlO (w : Int) : CL := if w = 0 then [] else [(11, 0)]
section CO
variable {tk vl : Nat → Int} {P : List Int} {w : Int} {r r2 : RS} {q : Nat × CL}
theorem wP_nb : nbP (wP w P) = nbP P + (if w = 0 then 0 else 1) := by
  unfold wP
  by_cases h : w = 0
  · rw [if_pos h, if_pos h, Nat.add_zero]
  · rw [if_neg h, if_neg h]
    show nbP P + (if (11 : Int) = 12 then 0 else 1) = nbP P + 1
    rw [if_neg (by decide)]
theorem wP_cn : cnO (wP w P) = cnO P := by
  unfold wP
  by_cases h : w = 0
  · rw [if_pos h]
  · rw [if_neg h]
    show cnO P + (if (11 : Int) = 9 ∨ (11 : Int) = 12 then 1 else 0) = cnO P
    rw [if_neg (by decide), Nat.add_zero]
theorem wP_10 (hP : ∀ p Q, P = p :: Q → p = 12) : ∀ p Q, wP w P = p :: Q → p ≠ 10 := by
  intro p Q e
  unfold wP at e
  by_cases h : w = 0
  · rw [if_pos h] at e
    rw [hP p Q e]
    decide
  · rw [if_neg h] at e
    cases e
    decide
theorem co_len (h : coR tk vl P w r (.inr q)) : ∃ q0, r = .inr q0 ∧ q.2.length + (if w = 0 then 0 else 1) + q0.1 ≤ q0.2.length + q.1 ∧ q0.1 ≤ q.1 := by
  cases r with
  | inl f => cases h
  | inr q0 => exact ⟨q0, rfl, h.2⟩
theorem co_first (hP : ∀ p Q, P = p :: Q → p = 12) (h : onR tk vl P r r2) : coR tk vl P 0 r r2 := by
  cases r with
  | inl f => exact h
  | inr q0 =>
    cases r2 with
    | inl f => exact h
    | inr u =>
      obtain ⟨h1, h2, h3⟩ := h
      refine ⟨fun x => ?_, ?_, h3⟩
      · have e : wP 0 P = P := if_pos rfl
        rw [h1 x, e, dCn_no (fun p Q z => by rw [hP p Q z]; decide)]
      · rw [if_pos rfl]
        exact h2
theorem co_and (hP : ∀ p Q, P = p :: Q → p = 12) (h : coR tk vl P w r (.inr q)) (ht : tk q.1 = 4) (h2 : onR tk vl (10 :: wP w P) (.inr (q.1 + 1, q.2)) r2) : coR tk vl P w r (emR (10, 0) r2) := by
  cases r with
  | inl f => cases h
  | inr q0 =>
    obtain ⟨a1, a2, a3⟩ := h
    have hb : bst tk vl (false, q.1, wP w P, q.2) (.inr (true, q.1 + 1, 10 :: wP w P, q.2)) := by
      unfold bst
      dsimp only
      rw [if_neg (by decide), if_pos ht, stl_no (wP_10 hP)]
    cases r2 with
    | inl f => exact (a1 _).mpr ((bR_step hb _).mpr h2)
    | inr u =>
      obtain ⟨b1, b2, b3⟩ := h2
      dsimp only at b2 b3
      refine ⟨fun x => ?_, ?_, by show q0.1 ≤ u.1; omega⟩
      · rw [a1 x, bR_step hb x]
        refine (b1 x).trans ?_
        rw [dCn_no (fun p Q e => by cases e; decide)]
        exact bR_and x
      · show (u.2 ++ _).length + _ + q0.1 ≤ q0.2.length + u.1
        rw [List.length_append]
        show u.2.length + 1 + _ + q0.1 ≤ _
        omega
theorem co_or (hP : ∀ p Q, P = p :: Q → p = 12) (h : coR tk vl P 0 r (.inr q)) (ht : tk q.1 = 3) (h2 : onR tk vl (11 :: P) (.inr (q.1 + 1, q.2)) r2) : coR tk vl P 1 r r2 := by
  have hp10 : ∀ p Q, P = p :: Q → p ≠ 10 := fun p Q e => by rw [hP p Q e]; decide
  have hp11 : ∀ p Q, P = p :: Q → p ≠ 11 := fun p Q e => by rw [hP p Q e]; decide
  have e0 : wP 0 P = P := if_pos rfl
  have e1 : wP 1 P = 11 :: P := if_neg (by decide)
  cases r with
  | inl f => cases h
  | inr q0 =>
    obtain ⟨a1, a2, a3⟩ := h
    rw [e0] at a1
    rw [if_pos rfl] at a2
    have hb : bst tk vl (false, q.1, P, q.2) (.inr (true, q.1 + 1, 11 :: P, q.2)) := by
      unfold bst
      dsimp only
      rw [if_neg (by decide), if_neg (by omega), if_pos ht, sAO_no hp10 hp11]
    cases r2 with
    | inl f => exact (a1 _).mpr ((bR_step hb _).mpr h2)
    | inr u =>
      obtain ⟨b1, b2, b3⟩ := h2
      dsimp only at b2 b3
      refine ⟨fun x => ?_, ?_, by show q0.1 ≤ u.1; omega⟩
      · rw [a1 x, bR_step hb x, e1]
        refine (b1 x).trans ?_
        rw [dCn_no (fun p Q e => by cases e; decide)]
      · rw [if_neg (show ¬ (1 : Int) = 0 by decide)]
        omega
theorem co_set (hP : ∀ p Q, P = p :: Q → p = 12) (h : coR tk vl P 1 r (.inr q)) (h4 : tk q.1 ≠ 4) : coR tk vl P 0 r (.inr (q.1, q.2 ++ [(11, 0)])) := by
  have hp10 : ∀ p Q, P = p :: Q → p ≠ 10 := fun p Q e => by rw [hP p Q e]; decide
  have e0 : wP 0 P = P := if_pos rfl
  have e1 : wP 1 P = 11 :: P := if_neg (by decide)
  cases r with
  | inl f => cases h
  | inr q0 =>
    obtain ⟨a1, a2, a3⟩ := h
    rw [e1] at a1
    rw [if_neg (show ¬ (1 : Int) = 0 by decide)] at a2
    refine ⟨fun x => ?_, ?_, a3⟩
    · rw [a1 x, e0]
      exact bR_or h4 hp10 x
    · show (q.2 ++ [((11 : Int), (0 : Int))]).length + _ + q0.1 ≤ q0.2.length + q.1
      rw [if_pos rfl, List.length_append]
      show q.2.length + 1 + 0 + q0.1 ≤ _
      omega
theorem co_or2 (hP : ∀ p Q, P = p :: Q → p = 12) (hw : w = 0 ∨ w = 1) (h : coR tk vl P w r (.inr q)) (ht : tk q.1 = 3) (h2 : onR tk vl (11 :: P) (.inr (q.1 + 1, q.2 ++ wlO w)) r2) : coR tk vl P 1 r r2 := by
  rcases hw with rfl | rfl
  · have e : wlO 0 = [] := if_pos rfl
    rw [e, List.append_nil] at h2
    exact co_or hP h ht h2
  · have e : wlO 1 = [(11, 0)] := if_neg (by decide)
    rw [e] at h2
    exact co_or hP (co_set hP h (by omega)) ht h2
theorem co_end0 (h : coR tk vl P 0 r r2) : alR tk vl P r r2 := by
  have e0 : wP 0 P = P := if_pos rfl
  cases r with
  | inl f => exact h
  | inr q0 =>
    cases r2 with
    | inl f => exact h
    | inr u =>
      obtain ⟨a1, a2, a3⟩ := h
      rw [e0] at a1
      rw [if_pos rfl] at a2
      exact ⟨a1, a2, a3⟩
theorem co_end1 (hP : ∀ p Q, P = p :: Q → p = 12) (h : coR tk vl P 1 r r2) (h4 : ∀ u, r2 = .inr u → tk u.1 ≠ 4) : alR tk vl P r (emR (11, 0) r2) := by
  cases r2 with
  | inl f =>
    cases r with
    | inl f2 => exact h
    | inr q0 => exact h
  | inr u => exact co_end0 (co_set hP h (h4 u rfl))
end CO
theorem on_cmp {tk vl : Nat → Int} {P : List Int} {r r2 : RS} (h5 : toR tk r ≠ 5) (h40 : toR tk r ≠ 40) (h : cmB tk vl r r2) (hc : ∀ q0 q2, r = .inr q0 → r2 = .inr q2 → q2.2.length + q0.1 = q0.2.length + q2.1 ∧ q0.1 ≤ q2.1) : onR tk vl P r r2 := by
  cases r with
  | inl f => exact h
  | inr q =>
    replace h5 : tk q.1 ≠ 5 := h5
    replace h40 : tk q.1 ≠ 40 := h40
    have hb : ∀ o, (match r2 with
       | .inl f => o = (.inl (.inl f) : RS ⊕ BS)
       | .inr u => o = .inr (dCn u.1 P u.2)) → bst tk vl (true, q.1, P, q.2) o := by
      intro o ho
      unfold bst
      dsimp only
      rw [if_pos rfl, if_neg (by omega)]
      refine ⟨r2, h, ?_⟩
      cases r2 with
      | inl f => exact ho
      | inr u => exact ho
    cases r2 with
    | inl f => exact bR_done (hb _ rfl)
    | inr u =>
      have h1 := hc q u rfl rfl
      exact ⟨fun x => bR_step (hb _ rfl) x, by omega, h1.2⟩
theorem on_not {tk vl : Nat → Int} {P : List Int} {r2 : RS} {q : Nat × CL} (h5 : tk q.1 = 5) (h8 : cnO P ≠ 8) (h : onR tk vl (9 :: P) (.inr (q.1 + 1, q.2)) r2) : onR tk vl P (.inr q) (emR (9, 0) r2) := by
  have hb : bst tk vl (true, q.1, P, q.2) (.inr (true, q.1 + 1, 9 :: P, q.2)) := by
    unfold bst
    dsimp only
    rw [if_pos rfl, if_pos (Or.inl h5), if_neg h8, if_pos h5]
  cases r2 with
  | inl f => exact (bR_step hb _).mpr h
  | inr u =>
    obtain ⟨b1, b2, b3⟩ := h
    dsimp only at b2 b3
    refine ⟨fun x => ?_, ?_, by show q.1 ≤ u.1; omega⟩
    · rw [bR_step hb x, b1 x, dCn_not]
    · show (u.2 ++ _).length + q.1 ≤ q.2.length + u.1
      rw [List.length_append]
      show u.2.length + 1 + q.1 ≤ _
      omega
theorem on_br {tk vl : Nat → Int} {P : List Int} {r2 : RS} {q : Nat × CL} (h40 : tk q.1 = 40) (h8 : cnO P ≠ 8) (h : alR tk vl (12 :: P) (.inr (q.1 + 1, q.2)) r2) (h34 : ∀ u, r2 = .inr u → tk u.1 ≠ 4 ∧ tk u.1 ≠ 3) : onR tk vl P (.inr q) (dmR tk 41 r2) := by
  have hb : bst tk vl (true, q.1, P, q.2) (.inr (true, q.1 + 1, 12 :: P, q.2)) := by
    unfold bst
    dsimp only
    rw [if_pos rfl, if_pos (Or.inr h40), if_neg h8, if_neg (show ¬ tk q.1 = 5 by omega)]
  cases r2 with
  | inl f => exact (bR_step hb _).mpr h
  | inr u =>
    obtain ⟨b1, b2, b3⟩ := h
    dsimp only at b2 b3
    have hu := h34 u rfl
    have hs : sAO (12 :: P) u.2 = (12 :: P, u.2) := sAO_no (fun p Q e => by cases e; decide) (fun p Q e => by cases e; decide)
    have hcb : cnB (12 :: P) ≠ 0 := by show cnB P + (if (12 : Int) = 12 then 1 else 0) ≠ 0; rw [if_pos rfl]; omega
    show onR tk vl P (.inr q) (if tk u.1 = 41 then .inr (u.1 + 1, u.2) else .inl (1, u.1))
    by_cases w : tk u.1 = 41
    · rw [if_pos w]
      have hb2 : bst tk vl (false, u.1, 12 :: P, u.2) (.inr (dCn (u.1 + 1) P u.2)) := by
        unfold bst
        dsimp only
        rw [if_neg (by decide), if_neg hu.1, if_neg hu.2, hs, if_neg hcb, if_pos w]
        rfl
      refine ⟨fun x => ?_, by show u.2.length + q.1 ≤ q.2.length + (u.1 + 1); omega, by show q.1 ≤ u.1 + 1; omega⟩
      rw [bR_step hb x, b1 x, bR_step hb2 x]
    · rw [if_neg w]
      have hb2 : bst tk vl (false, u.1, 12 :: P, u.2) (.inl (.inl (1, u.1))) := by
        unfold bst
        dsimp only
        rw [if_neg (by decide), if_neg hu.1, if_neg hu.2, hs, if_neg hcb, if_neg w]
      exact (bR_step hb _).mpr ((b1 _).mpr (bR_done hb2))
theorem on_full {tk vl : Nat → Int} {P : List Int} {q : Nat × CL} (ht : tk q.1 = 5 ∨ tk q.1 = 40) (h8 : cnO P = 8) : onR tk vl P (.inr q) (rfR 3 (.inr q)) := by
  refine bR_done ?_
  unfold bst
  dsimp only
  rw [if_pos rfl, if_pos ht, if_pos h8]
def oneP (l : Launch) (g : ot_G) (ln : Nat) (ext : ot_L) (μb : ot_M) (tk vl pl : Nat → Int) (K b : Nat) (F0 : Int → Int) (op D : Nat) : Prop := ∀ (μ : ot_M) (P : List Int) (r : RS), cnO P = op → stC μb tk pl K b F0 r μ → (∀ q, r = .inr q → b + q.2.length + nbP P ≤ q.1) → ot_C l g yX4_readOne cX4_readOne 4 none D 0 0 [.inr 49, .inl (op : Int)] (LL ln ext) μ (ot_pv (fun L2 μ2 => L2 = LL ln ext ∧ ∃ r2, onR tk vl P r r2 ∧ stC μb tk pl K b F0 r2 μ2))
def anyP (l : Launch) (g : ot_G) (ln : Nat) (ext : ot_L) (μb : ot_M) (tk vl pl : Nat → Int) (K b : Nat) (F0 : Int → Int) (op D : Nat) : Prop := ∀ (μ : ot_M) (P : List Int) (r : RS), cnO P = op → (∀ p Q, P = p :: Q → p = 12) → stC μb tk pl K b F0 r μ → (∀ q, r = .inr q → b + q.2.length + nbP P ≤ q.1) → ot_C l g yX4_readCondition cX4_readCondition 4 none D 0 0 [.inr 49, .inl (op : Int)] (LL ln ext) μ (ot_pv (fun L2 μ2 => L2 = LL ln ext ∧ ∃ r2, alR tk vl P r r2 ∧ stC μb tk pl K b F0 r2 μ2 ∧ ∀ u, r2 = .inr u → tk u.1 ≠ 4 ∧ tk u.1 ≠ 3))
set_option maxRecDepth 100000 in
set_option maxHeartbeats 1000000 in
theorem c_anyOf (l : Launch) (g : ot_G) (ln : Nat) (ext : ot_L) (μb : ot_M) (tk vl pl : Nat → Int) (K b : Nat) (F0 : Int → Int) (hg : gTk μb K tk vl pl) (op D : Nat) (hop : op ≤ 8) (hone : oneP l g ln ext μb tk vl pl K b F0 op D) : anyP l g ln ext μb tk vl pl K b F0 op (D + 1) := by
  intro μ P r hcn hP hs hroom
  refine ot_enter (by decide) (Nat.le_of_ble_eq_true rfl) ?_
  intro p e s m args below meth c X hr
  have hK := hg.1
  have h41 := hg.2.1
  have h4 := stC_4 hs
  have h5 := stC_5 hs
  have h7 := stC_7 hs
  have h8 := stC_8 hs
  have htr := toR_rng (r := r) hg
  refine tt_iconst X dX4_readCondition_0 ?_
  refine tt_istore_n X dX4_readCondition_1 (by decide) ?_
  refine tt_aload_n X rfl dX4_readCondition_2 ?_
  refine tt_iload_n X rfl dX4_readCondition_3 ?_
  refine tt_vv X rfl mX4_118 (hone _ P r hcn hs hroom) (k_49 _ _) ⟨_, rfl, rfl⟩ rfl rfl (Nat.le_of_ble_eq_true rfl) (by omega) (by decide) (by decide) dX4_readCondition_4 (fun L4 μ4 hp => ?_)
  obtain ⟨rfl, r1, hr1, hs1⟩ := hp
  refine tt_iconst X dX4_readCondition_7 ?_
  refine tt_istore_n X dX4_readCondition_8 (by decide) ?_
  refine tt_loc [(0, _), (1, _), (2, _), (3, _)] ⟨rfl, rfl, rfl, rfl, trivial⟩ ?_
  refine tt_loop (α := Nat × ot_M × RS × Int) (fun ((i, σ, r1, w)) => 400 - i) (fun ((i, σ, r1, w)) => stC μb tk pl K b F0 r1 σ ∧ i ≤ 400 ∧ coR tk vl P w r r1 ∧ (∀ q, r1 = .inr q → i ≤ q.1) ∧ (w = 0 ∨ w = 1)) (fun ((i, σ, r1, w)) => σ) (fun ((i, σ, r1, w)) => [(0, .inr 49), (1, .inl (op : Int)), (2, .inl w), (3, .inl (i : Int))]) (0, μ4, r1, 0) ⟨hs1, by show 0 ≤ 400; decide, co_first hP hr1, fun q _ => Nat.zero_le _, Or.inl rfl⟩ ?_
  intro a hI ih
  obtain ⟨i, σ, r1, w⟩ := a
  try dsimp only at hI ih ⊢
  replace hI : stC μb tk pl K b F0 r1 σ ∧ i ≤ 400 ∧ coR tk vl P w r r1 ∧ (∀ q, r1 = .inr q → i ≤ q.1) ∧ (w = 0 ∨ w = 1) := hI
  have hi4 := hI.2.1
  have hw3 := hI.2.2.2.2
  have htr1 := toR_rng (r := r1) hg
  refine tt_iload_n X rfl dX4_readCondition_9 ?_
  refine tt_sipush X (by decide) dX4_readCondition_10 ?_
  refine tt_icmp_gt X 77 (by first | omega | (simp (disch := decide) only [ot_rd, ot_rs, ot_rf, ot_ucd, ot_ucs]; omega)) dX4_readCondition_13 (by decide) (fun b13 => ?_) (fun b13 => ?_)
  · exact absurd b13 (by omega)
  · refine tt_aload_n X rfl dX4_readCondition_16 ?_
    refine tt_geti X fX4_54 (k_49 _ _) (by decide) (Or.inl rfl) dX4_readCondition_17 ?_
    try simp (disch := decide) only [ot_rd, ot_rs, ot_rf, ot_ucd, ot_ucs]
    refine tt_top (stC_tok hI.1) ?_
    refine tt_iconst X dX4_readCondition_20 ?_
    refine tt_icmp_ne X 42 (by first | omega | (simp (disch := decide) only [ot_rd, ot_rs, ot_rf, ot_ucd, ot_ucs]; omega)) dX4_readCondition_21 (by decide) (fun b21 => ?_) (fun b21 => ?_)
    · refine tt_aload_n X rfl dX4_readCondition_42 ?_
      refine tt_geti X fX4_54 (k_49 _ _) (by decide) (Or.inl rfl) dX4_readCondition_43 ?_
      try simp (disch := decide) only [ot_rd, ot_rs, ot_rf, ot_ucd, ot_ucs]
      refine tt_top (stC_tok hI.1) ?_
      refine tt_iconst X dX4_readCondition_46 ?_
      refine tt_icmp_ne X 77 (by first | omega | (simp (disch := decide) only [ot_rd, ot_rs, ot_rf, ot_ucd, ot_ucs]; omega)) dX4_readCondition_47 (by decide) (fun b47 => ?_) (fun b47 => ?_)
      · refine tt_iload_n X rfl dX4_readCondition_77 ?_
        refine tt_if_eq X 87 (by first | omega | (simp (disch := decide) only [ot_rd, ot_rs, ot_rf, ot_ucd, ot_ucs]; omega)) dX4_readCondition_78 (by decide) (fun b78 => ?_) (fun b78 => ?_)
        · refine tt_vret X ⟨hr.1, hr.2.1⟩ (by decide) (by decide) dX4_readCondition_87 ?_
          refine ⟨rfl, ?_⟩
          have hn : ∀ u, r1 = .inr u → tk u.1 ≠ 4 ∧ tk u.1 ≠ 3 := fun u hu => by
            subst hu
            have e0 : toR tk (.inr u) = tk u.1 := rfl
            exact ⟨by omega, by omega⟩
          first
            | (have hw0 : w = 0 := by omega
               have h3 := hI.2.2.1
               rw [hw0] at h3
               exact ⟨r1, co_end0 h3, hI.1, hn⟩)
            | (have hw1 : w = 1 := by omega
               have h3 := hI.2.2.1
               rw [hw1] at h3
               refine ⟨_, co_end1 hP h3 (fun u hu => (hn u hu).1), hs84, fun u hu => ?_⟩
               cases r1 with
               | inl f => cases hu
               | inr v => cases hu; exact hn v rfl)
        · refine tt_aload_n X rfl dX4_readCondition_81 ?_
          refine tt_bipush X (by decide) dX4_readCondition_82 ?_
          refine tt_vv X rfl mX4_121 (c_emit l g ln ext _ _ (stC_7 hI.1)) (k_49 _ _) ⟨_, rfl, rfl⟩ rfl rfl (Nat.le_of_ble_eq_true rfl) (by omega) (by decide) (by decide) dX4_readCondition_84 (fun L84 μ84 hp => ?_)
          obtain ⟨rfl, e84⟩ := hp
          have hs84 := stC_emit (x := (11, 0)) hI.1 (fun u hu => by
            subst hu
            obtain ⟨q0, hq0, hgr, hgs⟩ := co_len hI.2.2.1
            have hr0 := hroom q0 hq0
            have hk2 := (stC_at hI.1).2.1
            rw [if_neg (show ¬ w = 0 by omega)] at hgr
            exact ⟨rfl, by omega⟩) e84
          refine tt_vret X ⟨hr.1, hr.2.1⟩ (by decide) (by decide) dX4_readCondition_87 ?_
          refine ⟨rfl, ?_⟩
          have hn : ∀ u, r1 = .inr u → tk u.1 ≠ 4 ∧ tk u.1 ≠ 3 := fun u hu => by
            subst hu
            have e0 : toR tk (.inr u) = tk u.1 := rfl
            exact ⟨by omega, by omega⟩
          first
            | (have hw0 : w = 0 := by omega
               have h3 := hI.2.2.1
               rw [hw0] at h3
               exact ⟨r1, co_end0 h3, hI.1, hn⟩)
            | (have hw1 : w = 1 := by omega
               have h3 := hI.2.2.1
               rw [hw1] at h3
               refine ⟨_, co_end1 hP h3 (fun u hu => (hn u hu).1), hs84, fun u hu => ?_⟩
               cases r1 with
               | inl f => cases hu
               | inr v => cases hu; exact hn v rfl)
      · obtain ⟨q, rfl⟩ := toR_in (r := r1) (tk := tk) (by omega)
        have e0 : toR tk (.inr q) = tk q.1 := rfl
        have hat := stC_at hI.1
        have hiq := hI.2.2.2.1 q rfl
        obtain ⟨q0, hq0, hgr, hgs⟩ := co_len hI.2.2.1
        have hr0 := hroom q0 hq0
        have hqK : q.1 < K := by
          apply Classical.byContradiction
          intro w3
          have hq : q.1 = K := by omega
          have := hg.2.2.2.1
          rw [← hq] at this
          omega
        refine tt_aload_n X rfl dX4_readCondition_50 ?_
        refine tt_vv X rfl mX4_95 (c_step l g ln ext _ (stC_8 hI.1) (by have := stC_5 hI.1; omega) (by have := stC_4 hI.1; omega)) (k_49 _ _) ⟨_, rfl, rfl⟩ rfl rfl (Nat.le_of_ble_eq_true rfl) (by omega) (by decide) (by decide) dX4_readCondition_51 (fun L51 μ51 hp => ?_)
        obtain ⟨rfl, e51⟩ := hp
        have hs51 := stC_step hg hI.1 (by omega) e51
        refine tt_iload_n X rfl dX4_readCondition_54 ?_
        refine tt_if_eq X 64 (by first | omega | (simp (disch := decide) only [ot_rd, ot_rs, ot_rf, ot_ucd, ot_ucs]; omega)) dX4_readCondition_55 (by decide) (fun b55 => ?_) (fun b55 => ?_)
        · have hs66 : stC μb tk pl K b F0 (.inr (q.1 + 1, q.2 ++ wlO w)) μ51 := by
            first
              | (have hw0 : wlO w = [] := if_pos (by omega)
                 rw [hw0, List.append_nil]
                 exact hs51)
              | (have hw1 : wlO w = [(11, 0)] := if_neg (by omega)
                 rw [hw1]
                 exact hs61)
          have hlw : (wlO w).length = if w = 0 then 0 else 1 := by
            unfold wlO
            split <;> rfl
          have hrm : ∀ q2, (Sum.inr (q.1 + 1, q.2 ++ wlO w) : RS) = .inr q2 → b + q2.2.length + nbP (11 :: P) ≤ q2.1 := fun q2 hq2 => by
            cases hq2
            show b + (q.2 ++ wlO w).length + (nbP P + 1) ≤ q.1 + 1
            rw [List.length_append, hlw]
            omega
          have hcn11 : cnO (11 :: P) = op := by
            show cnO P + (if (11 : Int) = 9 ∨ (11 : Int) = 12 then 1 else 0) = op
            rw [if_neg (by decide)]
            exact hcn
          refine tt_iconst X dX4_readCondition_64 ?_
          refine tt_istore_n X dX4_readCondition_65 (by decide) ?_
          refine tt_aload_n X rfl dX4_readCondition_66 ?_
          refine tt_iload_n X rfl dX4_readCondition_67 ?_
          refine tt_vv X rfl mX4_118 (hone _ (11 :: P) (.inr (q.1 + 1, q.2 ++ wlO w)) hcn11 hs66 hrm) (k_49 _ _) ⟨_, rfl, rfl⟩ rfl rfl (Nat.le_of_ble_eq_true rfl) (by omega) (by decide) (by decide) dX4_readCondition_68 (fun L68 μ68 hp => ?_)
          obtain ⟨rfl, r2, hr2, hs2⟩ := hp
          refine tt_iinc X dX4_readCondition_71 rfl (by decide) ?_
          refine tt_goto X 9 dX4_readCondition_74 (by decide) ?_
          refine tt_loc [(0, _), (1, _), (2, _), (3, _)] ⟨rfl, rfl, rfl, rfl, trivial⟩ ?_
          have hle : ∀ u, r2 = .inr u → i + 1 ≤ u.1 := fun u hu => by
            subst hu
            have h1 := hr2.2.2
            dsimp only at h1
            omega
          first
            | exact ih (i + 1, _, _, w) ⟨hs36, by show i + 1 ≤ 400; omega, co_and hP hI.2.2.1 (by omega) hr2, fun u hu => by
                cases r2 with
                | inl f => cases hu
                | inr v => cases hu; exact hle v rfl, hI.2.2.2.2⟩ (by show 400 - (i + 1) < 400 - i; omega)
            | exact ih (i + 1, _, _, 1) ⟨hs2, by show i + 1 ≤ 400; omega, co_or2 hP hI.2.2.2.2 hI.2.2.1 (by omega) hr2, hle, Or.inr rfl⟩ (by show 400 - (i + 1) < 400 - i; omega)
        · have hgr1 := hgr
          rw [if_neg (show ¬ w = 0 by omega)] at hgr1
          refine tt_aload_n X rfl dX4_readCondition_58 ?_
          refine tt_bipush X (by decide) dX4_readCondition_59 ?_
          refine tt_vv X rfl mX4_121 (c_emit l g ln ext _ _ (stC_7 hs51)) (k_49 _ _) ⟨_, rfl, rfl⟩ rfl rfl (Nat.le_of_ble_eq_true rfl) (by omega) (by decide) (by decide) dX4_readCondition_61 (fun L61 μ61 hp => ?_)
          obtain ⟨rfl, e61⟩ := hp
          have hs61 := stC_emit (x := (11, 0)) hs51 (fun u hu => by
            cases hu
            exact ⟨rfl, by show b + q.2.length < 400; omega⟩) e61
          have hs66 : stC μb tk pl K b F0 (.inr (q.1 + 1, q.2 ++ wlO w)) μ61 := by
            first
              | (have hw0 : wlO w = [] := if_pos (by omega)
                 rw [hw0, List.append_nil]
                 exact hs51)
              | (have hw1 : wlO w = [(11, 0)] := if_neg (by omega)
                 rw [hw1]
                 exact hs61)
          have hlw : (wlO w).length = if w = 0 then 0 else 1 := by
            unfold wlO
            split <;> rfl
          have hrm : ∀ q2, (Sum.inr (q.1 + 1, q.2 ++ wlO w) : RS) = .inr q2 → b + q2.2.length + nbP (11 :: P) ≤ q2.1 := fun q2 hq2 => by
            cases hq2
            show b + (q.2 ++ wlO w).length + (nbP P + 1) ≤ q.1 + 1
            rw [List.length_append, hlw]
            omega
          have hcn11 : cnO (11 :: P) = op := by
            show cnO P + (if (11 : Int) = 9 ∨ (11 : Int) = 12 then 1 else 0) = op
            rw [if_neg (by decide)]
            exact hcn
          refine tt_iconst X dX4_readCondition_64 ?_
          refine tt_istore_n X dX4_readCondition_65 (by decide) ?_
          refine tt_aload_n X rfl dX4_readCondition_66 ?_
          refine tt_iload_n X rfl dX4_readCondition_67 ?_
          refine tt_vv X rfl mX4_118 (hone _ (11 :: P) (.inr (q.1 + 1, q.2 ++ wlO w)) hcn11 hs66 hrm) (k_49 _ _) ⟨_, rfl, rfl⟩ rfl rfl (Nat.le_of_ble_eq_true rfl) (by omega) (by decide) (by decide) dX4_readCondition_68 (fun L68 μ68 hp => ?_)
          obtain ⟨rfl, r2, hr2, hs2⟩ := hp
          refine tt_iinc X dX4_readCondition_71 rfl (by decide) ?_
          refine tt_goto X 9 dX4_readCondition_74 (by decide) ?_
          refine tt_loc [(0, _), (1, _), (2, _), (3, _)] ⟨rfl, rfl, rfl, rfl, trivial⟩ ?_
          have hle : ∀ u, r2 = .inr u → i + 1 ≤ u.1 := fun u hu => by
            subst hu
            have h1 := hr2.2.2
            dsimp only at h1
            omega
          first
            | exact ih (i + 1, _, _, w) ⟨hs36, by show i + 1 ≤ 400; omega, co_and hP hI.2.2.1 (by omega) hr2, fun u hu => by
                cases r2 with
                | inl f => cases hu
                | inr v => cases hu; exact hle v rfl, hI.2.2.2.2⟩ (by show 400 - (i + 1) < 400 - i; omega)
            | exact ih (i + 1, _, _, 1) ⟨hs2, by show i + 1 ≤ 400; omega, co_or2 hP hI.2.2.2.2 hI.2.2.1 (by omega) hr2, hle, Or.inr rfl⟩ (by show 400 - (i + 1) < 400 - i; omega)
    · obtain ⟨q, rfl⟩ := toR_in (r := r1) (tk := tk) (by omega)
      have e0 : toR tk (.inr q) = tk q.1 := rfl
      have hat := stC_at hI.1
      have hiq := hI.2.2.2.1 q rfl
      obtain ⟨q0, hq0, hgr, hgs⟩ := co_len hI.2.2.1
      have hr0 := hroom q0 hq0
      have hqK : q.1 < K := by
        apply Classical.byContradiction
        intro w3
        have hq : q.1 = K := by omega
        have := hg.2.2.2.1
        rw [← hq] at this
        omega
      have hrm : ∀ q2, stR (.inr q) = .inr q2 → b + q2.2.length + nbP (10 :: wP w P) ≤ q2.1 := fun q2 hq2 => by
        cases hq2
        show b + q.2.length + (nbP (wP w P) + 1) ≤ q.1 + 1
        rw [wP_nb]
        omega
      have hcn10 : cnO (10 :: wP w P) = op := by
        show cnO (wP w P) + (if (10 : Int) = 9 ∨ (10 : Int) = 12 then 1 else 0) = op
        rw [if_neg (by decide), wP_cn]
        exact hcn
      refine tt_aload_n X rfl dX4_readCondition_24 ?_
      refine tt_vv X rfl mX4_95 (c_step l g ln ext _ (stC_8 hI.1) (by have := stC_5 hI.1; omega) (by have := stC_4 hI.1; omega)) (k_49 _ _) ⟨_, rfl, rfl⟩ rfl rfl (Nat.le_of_ble_eq_true rfl) (by omega) (by decide) (by decide) dX4_readCondition_25 (fun L25 μ25 hp => ?_)
      obtain ⟨rfl, e25⟩ := hp
      have hs25 := stC_step hg hI.1 (by omega) e25
      refine tt_aload_n X rfl dX4_readCondition_28 ?_
      refine tt_iload_n X rfl dX4_readCondition_29 ?_
      refine tt_vv X rfl mX4_118 (hone _ (10 :: wP w P) _ hcn10 hs25 hrm) (k_49 _ _) ⟨_, rfl, rfl⟩ rfl rfl (Nat.le_of_ble_eq_true rfl) (by omega) (by decide) (by decide) dX4_readCondition_30 (fun L30 μ30 hp => ?_)
      obtain ⟨rfl, r2, hr2, hs2⟩ := hp
      refine tt_aload_n X rfl dX4_readCondition_33 ?_
      refine tt_bipush X (by decide) dX4_readCondition_34 ?_
      refine tt_vv X rfl mX4_121 (c_emit l g ln ext _ _ (stC_7 hs2)) (k_49 _ _) ⟨_, rfl, rfl⟩ rfl rfl (Nat.le_of_ble_eq_true rfl) (by omega) (by decide) (by decide) dX4_readCondition_36 (fun L36 μ36 hp => ?_)
      obtain ⟨rfl, e36⟩ := hp
      have hs36 := stC_emit (x := (10, 0)) hs2 (fun u hu => by
        subst hu
        have h1 := hr2
        obtain ⟨_, b2, b3⟩ := h1
        dsimp only at b2 b3
        have hk2 := (stC_at hs2).2.1
        exact ⟨rfl, by omega⟩) e36
      refine tt_goto X 71 dX4_readCondition_39 (by decide) ?_
      refine tt_iinc X dX4_readCondition_71 rfl (by decide) ?_
      refine tt_goto X 9 dX4_readCondition_74 (by decide) ?_
      refine tt_loc [(0, _), (1, _), (2, _), (3, _)] ⟨rfl, rfl, rfl, rfl, trivial⟩ ?_
      have hle : ∀ u, r2 = .inr u → i + 1 ≤ u.1 := fun u hu => by
        subst hu
        have h1 := hr2.2.2
        dsimp only at h1
        omega
      first
        | exact ih (i + 1, _, _, w) ⟨hs36, by show i + 1 ≤ 400; omega, co_and hP hI.2.2.1 (by omega) hr2, fun u hu => by
            cases r2 with
            | inl f => cases hu
            | inr v => cases hu; exact hle v rfl, hI.2.2.2.2⟩ (by show 400 - (i + 1) < 400 - i; omega)
        | exact ih (i + 1, _, _, 1) ⟨hs2, by show i + 1 ≤ 400; omega, co_or2 hP hI.2.2.2.2 hI.2.2.1 (by omega) hr2, hle, Or.inr rfl⟩ (by show 400 - (i + 1) < 400 - i; omega)
set_option maxRecDepth 100000 in
set_option maxHeartbeats 1000000 in
theorem c_one8 (l : Launch) (g : ot_G) (ln : Nat) (ext : ot_L) (μb : ot_M) (tk vl pl : Nat → Int) (K b : Nat) (F0 : Int → Int) (hg : gTk μb K tk vl pl)  : oneP l g ln ext μb tk vl pl K b F0 8 3 := by
  intro μ P r hcn hs hroom
  refine ot_enter (by decide) (Nat.le_of_ble_eq_true rfl) ?_
  intro p e s m args below meth c X hr
  have hK := hg.1
  have h41 := hg.2.1
  have h4 := stC_4 hs
  have h5 := stC_5 hs
  have h7 := stC_7 hs
  have h8 := stC_8 hs
  have htr := toR_rng (r := r) hg
  refine tt_aload_n X rfl dX4_readOne_0 ?_
  refine tt_geti X fX4_54 (k_49 _ _) (by decide) (Or.inl rfl) dX4_readOne_1 ?_
  refine tt_top (stC_tok hs) ?_
  refine tt_istore_n X dX4_readOne_4 (by decide) ?_
  refine tt_iload_n X rfl dX4_readOne_5 ?_
  refine tt_iconst X dX4_readOne_6 ?_
  refine tt_icmp_eq X 16 (by omega) dX4_readOne_7 (by decide) (fun b7 => ?_) (fun b7 => ?_)
  · refine tt_iload_n X rfl dX4_readOne_16 ?_
    refine tt_bipush X (by decide) dX4_readOne_17 ?_
    refine tt_icmp_lt X 30 (by omega) dX4_readOne_19 (by decide) (fun b19 => ?_) (fun b19 => ?_)
    · exact absurd b19 (by omega)
    · refine tt_aload_n X rfl dX4_readOne_22 ?_
      refine tt_iconst X dX4_readOne_23 ?_
      refine tt_vv X rfl mX4_98 (c_refuse l g ln ext _ _ (stC_8 hs) (by have := stC_5 hs; omega)) (k_49 _ _) ⟨_, rfl, rfl⟩ rfl rfl (Nat.le_of_ble_eq_true rfl) (by omega) (by decide) (by decide) dX4_readOne_24 (fun L24 μ24 hp => ?_)
      obtain ⟨rfl, e24⟩ := hp
      have hs24 := stC_ref hg hs (k := 3) (by omega) e24
      refine tt_goto X 122 dX4_readOne_27 (by decide) ?_
      refine tt_vret X ⟨hr.1, hr.2.1⟩ (by decide) (by decide) dX4_readOne_122 ?_
      refine ⟨rfl, ?_⟩
      first
        | exact ⟨_, on_cmp (by omega) (by omega) (cm_all hr1 hr2) (cm_len hc1 hr2 hc2), hs119⟩
        | (obtain ⟨q, rfl⟩ := toR_in (r := r) (tk := tk) (by omega)
           have e0 : toR tk (.inr q) = tk q.1 := rfl
           exact ⟨_, on_full (by omega) hcn, hs24⟩)
  · refine tt_iload_n X rfl dX4_readOne_10 ?_
    refine tt_bipush X (by decide) dX4_readOne_11 ?_
    refine tt_icmp_ne X 30 (by omega) dX4_readOne_13 (by decide) (fun b13 => ?_) (fun b13 => ?_)
    · refine tt_iload_n X rfl dX4_readOne_30 ?_
      refine tt_iconst X dX4_readOne_31 ?_
      refine tt_icmp_ne X 55 (by omega) dX4_readOne_32 (by decide) (fun b32 => ?_) (fun b32 => ?_)
      · refine tt_iload_n X rfl dX4_readOne_55 ?_
        refine tt_bipush X (by decide) dX4_readOne_56 ?_
        refine tt_icmp_ne X 81 (by omega) dX4_readOne_58 (by decide) (fun b58 => ?_) (fun b58 => ?_)
        · refine tt_aload_n X rfl dX4_readOne_81 ?_
          refine tt_vv X rfl mX4_124 (c_readSum l g ln ext _ μb tk vl pl K b F0 hg _ hs (fun q hq => by have := hroom q hq; omega)) (k_49 _ _) ⟨_, rfl, rfl⟩ rfl rfl (Nat.le_of_ble_eq_true rfl) (by omega) (by decide) (by decide) dX4_readOne_82 (fun L82 μ82 hp => ?_)
          obtain ⟨rfl, r1, hr1, hs82, hc1⟩ := hp
          have htr1 := toR_rng (r := r1) hg
          refine tt_aload_n X rfl dX4_readOne_85 ?_
          refine tt_geti X fX4_54 (k_49 _ _) (by decide) (Or.inl rfl) dX4_readOne_86 ?_
          try simp (disch := decide) only [ot_rd, ot_rs, ot_rf, ot_ucd, ot_ucs]
          refine tt_top (stC_tok hs82) ?_
          refine tt_istore_n X dX4_readOne_89 (by decide) ?_
          refine tt_aload_n X rfl dX4_readOne_90 ?_
          refine tt_iload_n X rfl dX4_readOne_91 ?_
          refine tt_bipush X (by decide) dX4_readOne_92 ?_
          refine tt_icmp_eq X 103 (by first | omega | (simp (disch := decide) only [ot_rd, ot_rs, ot_rf, ot_ucd, ot_ucs]; omega)) dX4_readOne_94 (by decide) (fun b94 => ?_) (fun b94 => ?_)
          · refine tt_iload_n X rfl dX4_readOne_103 ?_
            refine tt_goto X 109 dX4_readOne_104 (by decide) ?_
            refine tt_vv X rfl mX4_112 (c_demand l g ln ext _ _ (by omega) μb tk vl pl K b F0 hg _ hs82) (k_49 _ _) ⟨_, rfl, rfl⟩ rfl rfl (Nat.le_of_ble_eq_true rfl) (by omega) (by decide) (by decide) dX4_readOne_109 (fun L109 μ109 hp => ?_)
            obtain ⟨rfl, hs109⟩ := hp
            have hsD : stC μb tk pl K b F0 (cmD tk r1) μ109 := by
              first
                | (rw [← cm_dm (t := toR tk r1) (Or.inl ⟨rfl, by omega⟩)]; exact hs109)
                | (rw [← cm_dm (t := 61) (Or.inr ⟨rfl, by omega, by omega⟩)]; exact hs109)
            refine tt_aload_n X rfl dX4_readOne_112 ?_
            refine tt_vv X rfl mX4_124 (c_readSum l g ln ext _ μb tk vl pl K b F0 hg _ hsD (cm_room hr1 hc1 hroom)) (k_49 _ _) ⟨_, rfl, rfl⟩ rfl rfl (Nat.le_of_ble_eq_true rfl) (by omega) (by decide) (by decide) dX4_readOne_113 (fun L113 μ113 hp => ?_)
            obtain ⟨rfl, r2, hr2, hs113, hc2⟩ := hp
            refine tt_aload_n X rfl dX4_readOne_116 ?_
            refine tt_iload_n X rfl dX4_readOne_117 ?_
            refine tt_ineg X dX4_readOne_118 ?_
            refine tt_vv X rfl mX4_121 (c_emit l g ln ext _ _ (stC_7 hs113)) (k_49 _ _) ⟨_, rfl, rfl⟩ rfl rfl (Nat.le_of_ble_eq_true rfl) (by omega) (by decide) (by decide) dX4_readOne_119 (fun L119 μ119 hp => ?_)
            obtain ⟨rfl, e119⟩ := hp
            have hs119 := stC_emit (x := (cmC (toR tk r1), 0)) hs113 (fun u hu => by
              have h1 := cm_em hr1 hc1 hroom hr2 hc2 u hu
              subst hu
              have hk2 := (stC_at hs113).2.1
              exact ⟨h1.1, by omega⟩) e119
            refine tt_vret X ⟨hr.1, hr.2.1⟩ (by decide) (by decide) dX4_readOne_122 ?_
            refine ⟨rfl, ?_⟩
            first
              | exact ⟨_, on_cmp (by omega) (by omega) (cm_all hr1 hr2) (cm_len hc1 hr2 hc2), hs119⟩
              | (obtain ⟨q, rfl⟩ := toR_in (r := r) (tk := tk) (by omega)
                 have e0 : toR tk (.inr q) = tk q.1 := rfl
                 exact ⟨_, on_full (by omega) hcn, hs24⟩)
          · refine tt_iload_n X rfl dX4_readOne_97 ?_
            refine tt_bipush X (by decide) dX4_readOne_98 ?_
            refine tt_icmp_ne X 107 (by first | omega | (simp (disch := decide) only [ot_rd, ot_rs, ot_rf, ot_ucd, ot_ucs]; omega)) dX4_readOne_100 (by decide) (fun b100 => ?_) (fun b100 => ?_)
            · refine tt_bipush X (by decide) dX4_readOne_107 ?_
              refine tt_vv X rfl mX4_112 (c_demand l g ln ext _ _ (by omega) μb tk vl pl K b F0 hg _ hs82) (k_49 _ _) ⟨_, rfl, rfl⟩ rfl rfl (Nat.le_of_ble_eq_true rfl) (by omega) (by decide) (by decide) dX4_readOne_109 (fun L109 μ109 hp => ?_)
              obtain ⟨rfl, hs109⟩ := hp
              have hsD : stC μb tk pl K b F0 (cmD tk r1) μ109 := by
                first
                  | (rw [← cm_dm (t := toR tk r1) (Or.inl ⟨rfl, by omega⟩)]; exact hs109)
                  | (rw [← cm_dm (t := 61) (Or.inr ⟨rfl, by omega, by omega⟩)]; exact hs109)
              refine tt_aload_n X rfl dX4_readOne_112 ?_
              refine tt_vv X rfl mX4_124 (c_readSum l g ln ext _ μb tk vl pl K b F0 hg _ hsD (cm_room hr1 hc1 hroom)) (k_49 _ _) ⟨_, rfl, rfl⟩ rfl rfl (Nat.le_of_ble_eq_true rfl) (by omega) (by decide) (by decide) dX4_readOne_113 (fun L113 μ113 hp => ?_)
              obtain ⟨rfl, r2, hr2, hs113, hc2⟩ := hp
              refine tt_aload_n X rfl dX4_readOne_116 ?_
              refine tt_iload_n X rfl dX4_readOne_117 ?_
              refine tt_ineg X dX4_readOne_118 ?_
              refine tt_vv X rfl mX4_121 (c_emit l g ln ext _ _ (stC_7 hs113)) (k_49 _ _) ⟨_, rfl, rfl⟩ rfl rfl (Nat.le_of_ble_eq_true rfl) (by omega) (by decide) (by decide) dX4_readOne_119 (fun L119 μ119 hp => ?_)
              obtain ⟨rfl, e119⟩ := hp
              have hs119 := stC_emit (x := (cmC (toR tk r1), 0)) hs113 (fun u hu => by
                have h1 := cm_em hr1 hc1 hroom hr2 hc2 u hu
                subst hu
                have hk2 := (stC_at hs113).2.1
                exact ⟨h1.1, by omega⟩) e119
              refine tt_vret X ⟨hr.1, hr.2.1⟩ (by decide) (by decide) dX4_readOne_122 ?_
              refine ⟨rfl, ?_⟩
              first
                | exact ⟨_, on_cmp (by omega) (by omega) (cm_all hr1 hr2) (cm_len hc1 hr2 hc2), hs119⟩
                | (obtain ⟨q, rfl⟩ := toR_in (r := r) (tk := tk) (by omega)
                   have e0 : toR tk (.inr q) = tk q.1 := rfl
                   exact ⟨_, on_full (by omega) hcn, hs24⟩)
            · refine tt_iload_n X rfl dX4_readOne_103 ?_
              refine tt_goto X 109 dX4_readOne_104 (by decide) ?_
              refine tt_vv X rfl mX4_112 (c_demand l g ln ext _ _ (by omega) μb tk vl pl K b F0 hg _ hs82) (k_49 _ _) ⟨_, rfl, rfl⟩ rfl rfl (Nat.le_of_ble_eq_true rfl) (by omega) (by decide) (by decide) dX4_readOne_109 (fun L109 μ109 hp => ?_)
              obtain ⟨rfl, hs109⟩ := hp
              have hsD : stC μb tk pl K b F0 (cmD tk r1) μ109 := by
                first
                  | (rw [← cm_dm (t := toR tk r1) (Or.inl ⟨rfl, by omega⟩)]; exact hs109)
                  | (rw [← cm_dm (t := 61) (Or.inr ⟨rfl, by omega, by omega⟩)]; exact hs109)
              refine tt_aload_n X rfl dX4_readOne_112 ?_
              refine tt_vv X rfl mX4_124 (c_readSum l g ln ext _ μb tk vl pl K b F0 hg _ hsD (cm_room hr1 hc1 hroom)) (k_49 _ _) ⟨_, rfl, rfl⟩ rfl rfl (Nat.le_of_ble_eq_true rfl) (by omega) (by decide) (by decide) dX4_readOne_113 (fun L113 μ113 hp => ?_)
              obtain ⟨rfl, r2, hr2, hs113, hc2⟩ := hp
              refine tt_aload_n X rfl dX4_readOne_116 ?_
              refine tt_iload_n X rfl dX4_readOne_117 ?_
              refine tt_ineg X dX4_readOne_118 ?_
              refine tt_vv X rfl mX4_121 (c_emit l g ln ext _ _ (stC_7 hs113)) (k_49 _ _) ⟨_, rfl, rfl⟩ rfl rfl (Nat.le_of_ble_eq_true rfl) (by omega) (by decide) (by decide) dX4_readOne_119 (fun L119 μ119 hp => ?_)
              obtain ⟨rfl, e119⟩ := hp
              have hs119 := stC_emit (x := (cmC (toR tk r1), 0)) hs113 (fun u hu => by
                have h1 := cm_em hr1 hc1 hroom hr2 hc2 u hu
                subst hu
                have hk2 := (stC_at hs113).2.1
                exact ⟨h1.1, by omega⟩) e119
              refine tt_vret X ⟨hr.1, hr.2.1⟩ (by decide) (by decide) dX4_readOne_122 ?_
              refine ⟨rfl, ?_⟩
              first
                | exact ⟨_, on_cmp (by omega) (by omega) (cm_all hr1 hr2) (cm_len hc1 hr2 hc2), hs119⟩
                | (obtain ⟨q, rfl⟩ := toR_in (r := r) (tk := tk) (by omega)
                   have e0 : toR tk (.inr q) = tk q.1 := rfl
                   exact ⟨_, on_full (by omega) hcn, hs24⟩)
        · exact absurd b58 (by omega)
      · exact absurd b32 (by omega)
    · refine tt_iload_n X rfl dX4_readOne_16 ?_
      refine tt_bipush X (by decide) dX4_readOne_17 ?_
      refine tt_icmp_lt X 30 (by omega) dX4_readOne_19 (by decide) (fun b19 => ?_) (fun b19 => ?_)
      · exact absurd b19 (by omega)
      · refine tt_aload_n X rfl dX4_readOne_22 ?_
        refine tt_iconst X dX4_readOne_23 ?_
        refine tt_vv X rfl mX4_98 (c_refuse l g ln ext _ _ (stC_8 hs) (by have := stC_5 hs; omega)) (k_49 _ _) ⟨_, rfl, rfl⟩ rfl rfl (Nat.le_of_ble_eq_true rfl) (by omega) (by decide) (by decide) dX4_readOne_24 (fun L24 μ24 hp => ?_)
        obtain ⟨rfl, e24⟩ := hp
        have hs24 := stC_ref hg hs (k := 3) (by omega) e24
        refine tt_goto X 122 dX4_readOne_27 (by decide) ?_
        refine tt_vret X ⟨hr.1, hr.2.1⟩ (by decide) (by decide) dX4_readOne_122 ?_
        refine ⟨rfl, ?_⟩
        first
          | exact ⟨_, on_cmp (by omega) (by omega) (cm_all hr1 hr2) (cm_len hc1 hr2 hc2), hs119⟩
          | (obtain ⟨q, rfl⟩ := toR_in (r := r) (tk := tk) (by omega)
             have e0 : toR tk (.inr q) = tk q.1 := rfl
             exact ⟨_, on_full (by omega) hcn, hs24⟩)
set_option maxRecDepth 100000 in
set_option maxHeartbeats 1000000 in
theorem c_oneS (l : Launch) (g : ot_G) (ln : Nat) (ext : ot_L) (μb : ot_M) (tk vl pl : Nat → Int) (K b : Nat) (F0 : Int → Int) (hg : gTk μb K tk vl pl) (op D : Nat) (hop : op < 8) (hD : 3 ≤ D) (hone : oneP l g ln ext μb tk vl pl K b F0 (op + 1) D) (hany : anyP l g ln ext μb tk vl pl K b F0 (op + 1) (D + 1)) : oneP l g ln ext μb tk vl pl K b F0 op (D + 2) := by
  intro μ P r hcn hs hroom
  refine ot_enter (by decide) (Nat.le_of_ble_eq_true rfl) ?_
  intro p e s m args below meth c X hr
  have hK := hg.1
  have h41 := hg.2.1
  have h4 := stC_4 hs
  have h5 := stC_5 hs
  have h7 := stC_7 hs
  have h8 := stC_8 hs
  have htr := toR_rng (r := r) hg
  refine tt_aload_n X rfl dX4_readOne_0 ?_
  refine tt_geti X fX4_54 (k_49 _ _) (by decide) (Or.inl rfl) dX4_readOne_1 ?_
  refine tt_top (stC_tok hs) ?_
  refine tt_istore_n X dX4_readOne_4 (by decide) ?_
  refine tt_iload_n X rfl dX4_readOne_5 ?_
  refine tt_iconst X dX4_readOne_6 ?_
  refine tt_icmp_eq X 16 (by omega) dX4_readOne_7 (by decide) (fun b7 => ?_) (fun b7 => ?_)
  · refine tt_iload_n X rfl dX4_readOne_16 ?_
    refine tt_bipush X (by decide) dX4_readOne_17 ?_
    refine tt_icmp_lt X 30 (by omega) dX4_readOne_19 (by decide) (fun b19 => ?_) (fun b19 => ?_)
    · refine tt_iload_n X rfl dX4_readOne_30 ?_
      refine tt_iconst X dX4_readOne_31 ?_
      refine tt_icmp_ne X 55 (by omega) dX4_readOne_32 (by decide) (fun b32 => ?_) (fun b32 => ?_)
      · exact absurd b32 (by omega)
      · obtain ⟨q, rfl⟩ := toR_in (r := r) (tk := tk) (by omega)
        have e0 : toR tk (.inr q) = tk q.1 := rfl
        have hat := stC_at hs
        have hr0 := hroom q rfl
        refine tt_aload_n X rfl dX4_readOne_35 ?_
        refine tt_vv X rfl mX4_95 (c_step l g ln ext _ (stC_8 hs) (by have := stC_5 hs; omega) (by have := stC_4 hs; omega)) (k_49 _ _) ⟨_, rfl, rfl⟩ rfl rfl (Nat.le_of_ble_eq_true rfl) (by omega) (by decide) (by decide) dX4_readOne_36 (fun L36 μ36 hp => ?_)
        obtain ⟨rfl, e36⟩ := hp
        have hs36 := stC_step hg hs (by omega) e36
        refine tt_aload_n X rfl dX4_readOne_39 ?_
        refine tt_iload_n X rfl dX4_readOne_40 ?_
        refine tt_iconst X dX4_readOne_41 ?_
        refine tt_iadd X dX4_readOne_42 ?_
        refine tt_vv X rfl mX4_118 (hone _ (9 :: P) _ (by show cnO P + (if (9 : Int) = 9 ∨ (9 : Int) = 12 then 1 else 0) = op + 1; rw [if_pos (Or.inl rfl), hcn]) hs36 (fun q2 hq2 => by cases hq2; show b + q.2.length + (nbP P + 1) ≤ q.1 + 1; omega)) (k_49 _ _) ⟨_, rfl, rfl⟩ rfl rfl (Nat.le_of_ble_eq_true rfl) (by omega) (by decide) (by decide) dX4_readOne_43 (fun L43 μ43 hp => ?_)
        obtain ⟨rfl, r2, hr2, hs2⟩ := hp
        refine tt_aload_n X rfl dX4_readOne_46 ?_
        refine tt_bipush X (by decide) dX4_readOne_47 ?_
        refine tt_vv X rfl mX4_121 (c_emit l g ln ext _ _ (stC_7 hs2)) (k_49 _ _) ⟨_, rfl, rfl⟩ rfl rfl (Nat.le_of_ble_eq_true rfl) (by omega) (by decide) (by decide) dX4_readOne_49 (fun L49 μ49 hp => ?_)
        obtain ⟨rfl, e49⟩ := hp
        have hs49 := stC_emit (x := (9, 0)) hs2 (fun u hu => by
          subst hu
          have h1 := hr2
          obtain ⟨_, b2, b3⟩ := h1
          dsimp only at b2 b3
          have hk2 := (stC_at hs2).2.1
          exact ⟨rfl, by omega⟩) e49
        refine tt_goto X 122 dX4_readOne_52 (by decide) ?_
        refine tt_vret X ⟨hr.1, hr.2.1⟩ (by decide) (by decide) dX4_readOne_122 ?_
        refine ⟨rfl, ?_⟩
        first
          | exact ⟨_, on_cmp (by omega) (by omega) (cm_all hr1 hr2) (cm_len hc1 hr2 hc2), hs119⟩
          | exact ⟨_, on_not (by omega) (by omega) hr2, hs49⟩
          | exact ⟨_, on_br (by omega) (by omega) hr2 hn2, hs75⟩
    · exact absurd b19 (by omega)
  · refine tt_iload_n X rfl dX4_readOne_10 ?_
    refine tt_bipush X (by decide) dX4_readOne_11 ?_
    refine tt_icmp_ne X 30 (by omega) dX4_readOne_13 (by decide) (fun b13 => ?_) (fun b13 => ?_)
    · refine tt_iload_n X rfl dX4_readOne_30 ?_
      refine tt_iconst X dX4_readOne_31 ?_
      refine tt_icmp_ne X 55 (by omega) dX4_readOne_32 (by decide) (fun b32 => ?_) (fun b32 => ?_)
      · refine tt_iload_n X rfl dX4_readOne_55 ?_
        refine tt_bipush X (by decide) dX4_readOne_56 ?_
        refine tt_icmp_ne X 81 (by omega) dX4_readOne_58 (by decide) (fun b58 => ?_) (fun b58 => ?_)
        · refine tt_aload_n X rfl dX4_readOne_81 ?_
          refine tt_vv X rfl mX4_124 (c_readSum l g ln ext _ μb tk vl pl K b F0 hg _ hs (fun q hq => by have := hroom q hq; omega)) (k_49 _ _) ⟨_, rfl, rfl⟩ rfl rfl (Nat.le_of_ble_eq_true rfl) (by omega) (by decide) (by decide) dX4_readOne_82 (fun L82 μ82 hp => ?_)
          obtain ⟨rfl, r1, hr1, hs82, hc1⟩ := hp
          have htr1 := toR_rng (r := r1) hg
          refine tt_aload_n X rfl dX4_readOne_85 ?_
          refine tt_geti X fX4_54 (k_49 _ _) (by decide) (Or.inl rfl) dX4_readOne_86 ?_
          try simp (disch := decide) only [ot_rd, ot_rs, ot_rf, ot_ucd, ot_ucs]
          refine tt_top (stC_tok hs82) ?_
          refine tt_istore_n X dX4_readOne_89 (by decide) ?_
          refine tt_aload_n X rfl dX4_readOne_90 ?_
          refine tt_iload_n X rfl dX4_readOne_91 ?_
          refine tt_bipush X (by decide) dX4_readOne_92 ?_
          refine tt_icmp_eq X 103 (by first | omega | (simp (disch := decide) only [ot_rd, ot_rs, ot_rf, ot_ucd, ot_ucs]; omega)) dX4_readOne_94 (by decide) (fun b94 => ?_) (fun b94 => ?_)
          · refine tt_iload_n X rfl dX4_readOne_103 ?_
            refine tt_goto X 109 dX4_readOne_104 (by decide) ?_
            refine tt_vv X rfl mX4_112 (c_demand l g ln ext _ _ (by omega) μb tk vl pl K b F0 hg _ hs82) (k_49 _ _) ⟨_, rfl, rfl⟩ rfl rfl (Nat.le_of_ble_eq_true rfl) (by omega) (by decide) (by decide) dX4_readOne_109 (fun L109 μ109 hp => ?_)
            obtain ⟨rfl, hs109⟩ := hp
            have hsD : stC μb tk pl K b F0 (cmD tk r1) μ109 := by
              first
                | (rw [← cm_dm (t := toR tk r1) (Or.inl ⟨rfl, by omega⟩)]; exact hs109)
                | (rw [← cm_dm (t := 61) (Or.inr ⟨rfl, by omega, by omega⟩)]; exact hs109)
            refine tt_aload_n X rfl dX4_readOne_112 ?_
            refine tt_vv X rfl mX4_124 (c_readSum l g ln ext _ μb tk vl pl K b F0 hg _ hsD (cm_room hr1 hc1 hroom)) (k_49 _ _) ⟨_, rfl, rfl⟩ rfl rfl (Nat.le_of_ble_eq_true rfl) (by omega) (by decide) (by decide) dX4_readOne_113 (fun L113 μ113 hp => ?_)
            obtain ⟨rfl, r2, hr2, hs113, hc2⟩ := hp
            refine tt_aload_n X rfl dX4_readOne_116 ?_
            refine tt_iload_n X rfl dX4_readOne_117 ?_
            refine tt_ineg X dX4_readOne_118 ?_
            refine tt_vv X rfl mX4_121 (c_emit l g ln ext _ _ (stC_7 hs113)) (k_49 _ _) ⟨_, rfl, rfl⟩ rfl rfl (Nat.le_of_ble_eq_true rfl) (by omega) (by decide) (by decide) dX4_readOne_119 (fun L119 μ119 hp => ?_)
            obtain ⟨rfl, e119⟩ := hp
            have hs119 := stC_emit (x := (cmC (toR tk r1), 0)) hs113 (fun u hu => by
              have h1 := cm_em hr1 hc1 hroom hr2 hc2 u hu
              subst hu
              have hk2 := (stC_at hs113).2.1
              exact ⟨h1.1, by omega⟩) e119
            refine tt_vret X ⟨hr.1, hr.2.1⟩ (by decide) (by decide) dX4_readOne_122 ?_
            refine ⟨rfl, ?_⟩
            first
              | exact ⟨_, on_cmp (by omega) (by omega) (cm_all hr1 hr2) (cm_len hc1 hr2 hc2), hs119⟩
              | exact ⟨_, on_not (by omega) (by omega) hr2, hs49⟩
              | exact ⟨_, on_br (by omega) (by omega) hr2 hn2, hs75⟩
          · refine tt_iload_n X rfl dX4_readOne_97 ?_
            refine tt_bipush X (by decide) dX4_readOne_98 ?_
            refine tt_icmp_ne X 107 (by first | omega | (simp (disch := decide) only [ot_rd, ot_rs, ot_rf, ot_ucd, ot_ucs]; omega)) dX4_readOne_100 (by decide) (fun b100 => ?_) (fun b100 => ?_)
            · refine tt_bipush X (by decide) dX4_readOne_107 ?_
              refine tt_vv X rfl mX4_112 (c_demand l g ln ext _ _ (by omega) μb tk vl pl K b F0 hg _ hs82) (k_49 _ _) ⟨_, rfl, rfl⟩ rfl rfl (Nat.le_of_ble_eq_true rfl) (by omega) (by decide) (by decide) dX4_readOne_109 (fun L109 μ109 hp => ?_)
              obtain ⟨rfl, hs109⟩ := hp
              have hsD : stC μb tk pl K b F0 (cmD tk r1) μ109 := by
                first
                  | (rw [← cm_dm (t := toR tk r1) (Or.inl ⟨rfl, by omega⟩)]; exact hs109)
                  | (rw [← cm_dm (t := 61) (Or.inr ⟨rfl, by omega, by omega⟩)]; exact hs109)
              refine tt_aload_n X rfl dX4_readOne_112 ?_
              refine tt_vv X rfl mX4_124 (c_readSum l g ln ext _ μb tk vl pl K b F0 hg _ hsD (cm_room hr1 hc1 hroom)) (k_49 _ _) ⟨_, rfl, rfl⟩ rfl rfl (Nat.le_of_ble_eq_true rfl) (by omega) (by decide) (by decide) dX4_readOne_113 (fun L113 μ113 hp => ?_)
              obtain ⟨rfl, r2, hr2, hs113, hc2⟩ := hp
              refine tt_aload_n X rfl dX4_readOne_116 ?_
              refine tt_iload_n X rfl dX4_readOne_117 ?_
              refine tt_ineg X dX4_readOne_118 ?_
              refine tt_vv X rfl mX4_121 (c_emit l g ln ext _ _ (stC_7 hs113)) (k_49 _ _) ⟨_, rfl, rfl⟩ rfl rfl (Nat.le_of_ble_eq_true rfl) (by omega) (by decide) (by decide) dX4_readOne_119 (fun L119 μ119 hp => ?_)
              obtain ⟨rfl, e119⟩ := hp
              have hs119 := stC_emit (x := (cmC (toR tk r1), 0)) hs113 (fun u hu => by
                have h1 := cm_em hr1 hc1 hroom hr2 hc2 u hu
                subst hu
                have hk2 := (stC_at hs113).2.1
                exact ⟨h1.1, by omega⟩) e119
              refine tt_vret X ⟨hr.1, hr.2.1⟩ (by decide) (by decide) dX4_readOne_122 ?_
              refine ⟨rfl, ?_⟩
              first
                | exact ⟨_, on_cmp (by omega) (by omega) (cm_all hr1 hr2) (cm_len hc1 hr2 hc2), hs119⟩
                | exact ⟨_, on_not (by omega) (by omega) hr2, hs49⟩
                | exact ⟨_, on_br (by omega) (by omega) hr2 hn2, hs75⟩
            · refine tt_iload_n X rfl dX4_readOne_103 ?_
              refine tt_goto X 109 dX4_readOne_104 (by decide) ?_
              refine tt_vv X rfl mX4_112 (c_demand l g ln ext _ _ (by omega) μb tk vl pl K b F0 hg _ hs82) (k_49 _ _) ⟨_, rfl, rfl⟩ rfl rfl (Nat.le_of_ble_eq_true rfl) (by omega) (by decide) (by decide) dX4_readOne_109 (fun L109 μ109 hp => ?_)
              obtain ⟨rfl, hs109⟩ := hp
              have hsD : stC μb tk pl K b F0 (cmD tk r1) μ109 := by
                first
                  | (rw [← cm_dm (t := toR tk r1) (Or.inl ⟨rfl, by omega⟩)]; exact hs109)
                  | (rw [← cm_dm (t := 61) (Or.inr ⟨rfl, by omega, by omega⟩)]; exact hs109)
              refine tt_aload_n X rfl dX4_readOne_112 ?_
              refine tt_vv X rfl mX4_124 (c_readSum l g ln ext _ μb tk vl pl K b F0 hg _ hsD (cm_room hr1 hc1 hroom)) (k_49 _ _) ⟨_, rfl, rfl⟩ rfl rfl (Nat.le_of_ble_eq_true rfl) (by omega) (by decide) (by decide) dX4_readOne_113 (fun L113 μ113 hp => ?_)
              obtain ⟨rfl, r2, hr2, hs113, hc2⟩ := hp
              refine tt_aload_n X rfl dX4_readOne_116 ?_
              refine tt_iload_n X rfl dX4_readOne_117 ?_
              refine tt_ineg X dX4_readOne_118 ?_
              refine tt_vv X rfl mX4_121 (c_emit l g ln ext _ _ (stC_7 hs113)) (k_49 _ _) ⟨_, rfl, rfl⟩ rfl rfl (Nat.le_of_ble_eq_true rfl) (by omega) (by decide) (by decide) dX4_readOne_119 (fun L119 μ119 hp => ?_)
              obtain ⟨rfl, e119⟩ := hp
              have hs119 := stC_emit (x := (cmC (toR tk r1), 0)) hs113 (fun u hu => by
                have h1 := cm_em hr1 hc1 hroom hr2 hc2 u hu
                subst hu
                have hk2 := (stC_at hs113).2.1
                exact ⟨h1.1, by omega⟩) e119
              refine tt_vret X ⟨hr.1, hr.2.1⟩ (by decide) (by decide) dX4_readOne_122 ?_
              refine ⟨rfl, ?_⟩
              first
                | exact ⟨_, on_cmp (by omega) (by omega) (cm_all hr1 hr2) (cm_len hc1 hr2 hc2), hs119⟩
                | exact ⟨_, on_not (by omega) (by omega) hr2, hs49⟩
                | exact ⟨_, on_br (by omega) (by omega) hr2 hn2, hs75⟩
        · exact absurd b58 (by omega)
      · exact absurd b32 (by omega)
    · refine tt_iload_n X rfl dX4_readOne_16 ?_
      refine tt_bipush X (by decide) dX4_readOne_17 ?_
      refine tt_icmp_lt X 30 (by omega) dX4_readOne_19 (by decide) (fun b19 => ?_) (fun b19 => ?_)
      · refine tt_iload_n X rfl dX4_readOne_30 ?_
        refine tt_iconst X dX4_readOne_31 ?_
        refine tt_icmp_ne X 55 (by omega) dX4_readOne_32 (by decide) (fun b32 => ?_) (fun b32 => ?_)
        · refine tt_iload_n X rfl dX4_readOne_55 ?_
          refine tt_bipush X (by decide) dX4_readOne_56 ?_
          refine tt_icmp_ne X 81 (by omega) dX4_readOne_58 (by decide) (fun b58 => ?_) (fun b58 => ?_)
          · exact absurd b58 (by omega)
          · obtain ⟨q, rfl⟩ := toR_in (r := r) (tk := tk) (by omega)
            have e0 : toR tk (.inr q) = tk q.1 := rfl
            have hat := stC_at hs
            have hr0 := hroom q rfl
            refine tt_aload_n X rfl dX4_readOne_61 ?_
            refine tt_vv X rfl mX4_95 (c_step l g ln ext _ (stC_8 hs) (by have := stC_5 hs; omega) (by have := stC_4 hs; omega)) (k_49 _ _) ⟨_, rfl, rfl⟩ rfl rfl (Nat.le_of_ble_eq_true rfl) (by omega) (by decide) (by decide) dX4_readOne_62 (fun L62 μ62 hp => ?_)
            obtain ⟨rfl, e62⟩ := hp
            have hs62 := stC_step hg hs (by omega) e62
            refine tt_aload_n X rfl dX4_readOne_65 ?_
            refine tt_iload_n X rfl dX4_readOne_66 ?_
            refine tt_iconst X dX4_readOne_67 ?_
            refine tt_iadd X dX4_readOne_68 ?_
            refine tt_vv X rfl mX4_109 (hany _ (12 :: P) _ (by show cnO P + (if (12 : Int) = 9 ∨ (12 : Int) = 12 then 1 else 0) = op + 1; rw [if_pos (Or.inr rfl), hcn]) (fun p Q e => by cases e; rfl) hs62 (fun q2 hq2 => by cases hq2; show b + q.2.length + (nbP P + 0) ≤ q.1 + 1; omega)) (k_49 _ _) ⟨_, rfl, rfl⟩ rfl rfl (Nat.le_of_ble_eq_true rfl) (by omega) (by decide) (by decide) dX4_readOne_69 (fun L69 μ69 hp => ?_)
            obtain ⟨rfl, r2, hr2, hs2, hn2⟩ := hp
            refine tt_aload_n X rfl dX4_readOne_72 ?_
            refine tt_bipush X (by decide) dX4_readOne_73 ?_
            refine tt_vv X rfl mX4_112 (c_demand l g ln ext _ 41 (by decide) μb tk vl pl K b F0 hg _ hs2) (k_49 _ _) ⟨_, rfl, rfl⟩ rfl rfl (Nat.le_of_ble_eq_true rfl) (by omega) (by decide) (by decide) dX4_readOne_75 (fun L75 μ75 hp => ?_)
            obtain ⟨rfl, hs75⟩ := hp
            refine tt_goto X 122 dX4_readOne_78 (by decide) ?_
            refine tt_vret X ⟨hr.1, hr.2.1⟩ (by decide) (by decide) dX4_readOne_122 ?_
            refine ⟨rfl, ?_⟩
            first
              | exact ⟨_, on_cmp (by omega) (by omega) (cm_all hr1 hr2) (cm_len hc1 hr2 hc2), hs119⟩
              | exact ⟨_, on_not (by omega) (by omega) hr2, hs49⟩
              | exact ⟨_, on_br (by omega) (by omega) hr2 hn2, hs75⟩
        · exact absurd b32 (by omega)
      · exact absurd b19 (by omega)
theorem c_readCondition (l : Launch) (g : ot_G) (ln : Nat) (ext : ot_L) (μb : ot_M) (tk vl pl : Nat → Int) (K b : Nat) (F0 : Int → Int) (hg : gTk μb K tk vl pl)  : anyP l g ln ext μb tk vl pl K b F0 0 20 := by
  have key : ∀ n : Nat, n ≤ 8 → oneP l g ln ext μb tk vl pl K b F0 (8 - n) (3 + 2 * n) := by
    intro n
    induction n with
    | zero => intro _; exact c_one8 l g ln ext μb tk vl pl K b F0 hg
    | succ n ih =>
      intro hn
      have h1 := ih (by omega)
      have h2 := c_anyOf l g ln ext μb tk vl pl K b F0 hg _ _ (by omega) h1
      rw [show 8 - n = (8 - (n + 1)) + 1 by omega] at h1 h2
      exact c_oneS l g ln ext μb tk vl pl K b F0 hg (8 - (n + 1)) (3 + 2 * n) (by omega) (by omega) h1 h2
  have h0 := key 8 (Nat.le_refl _)
  exact c_anyOf l g ln ext μb tk vl pl K b F0 hg 0 19 (by omega) h0

def nbP : List Int → Nat
  | [] => 0
  | p :: P => nbP P + (if p = 12 then 0 else 1)
def onR (tk vl : Nat → Int) (P : List Int) (r r2 : RS) : Prop := match r with
  | .inl f => r2 = .inl f
  | .inr q => match r2 with
    | .inl f => bR tk vl (true, q.1, P, q.2) (.inl f)
    | .inr u => (∀ x, bR tk vl (true, q.1, P, q.2) x ↔ bR tk vl (dCn u.1 P u.2) x) ∧ u.2.length + q.1 ≤ q.2.length + u.1 ∧ q.1 ≤ u.1
def alR (tk vl : Nat → Int) (P : List Int) (r r2 : RS) : Prop := match r with
  | .inl f => r2 = .inl f
  | .inr q => match r2 with
    | .inl f => bR tk vl (true, q.1, P, q.2) (.inl f)
    | .inr u => (∀ x, bR tk vl (true, q.1, P, q.2) x ↔ bR tk vl (false, u.1, P, u.2) x) ∧ u.2.length + q.1 ≤ q.2.length + u.1 ∧ q.1 ≤ u.1
theorem on_al {tk vl : Nat → Int} {P : List Int} {r r2 : RS} (hP : ∀ p Q, P = p :: Q → p ≠ 9) (h : onR tk vl P r r2) : alR tk vl P r r2 := by
  cases r with
  | inl f => exact h
  | inr q =>
    cases r2 with
    | inl f => exact h
    | inr u =>
      obtain ⟨h1, h2⟩ := h
      refine ⟨fun x => ?_, h2⟩
      rw [h1 x, dCn_no hP]
theorem stl_no {w : Int} {P : List Int} {cs : CL} (hP : ∀ p Q, P = p :: Q → p ≠ w) : stl w P cs = (P, cs) := by
  cases P with
  | nil => rfl
  | cons p Q => show (if p = w then _ else _) = _; rw [if_neg (hP p Q rfl)]
theorem sAO_no {P : List Int} {cs : CL} (h1 : ∀ p Q, P = p :: Q → p ≠ 10) (h2 : ∀ p Q, P = p :: Q → p ≠ 11) : sAO P cs = (P, cs) := by
  unfold sAO
  rw [stl_no h1, stl_no h2]
theorem al_next {tk vl : Nat → Int} {P : List Int} {r r2 : RS} {q : Nat × CL} (hP : ∀ p Q, P = p :: Q → p ≠ 10) (h : alR tk vl P r (.inr q)) (ht : tk q.1 = 4) (h2 : onR tk vl (10 :: P) (.inr (q.1 + 1, q.2)) r2) : alR tk vl P r (emR (10, 0) r2) := by
  cases r with
  | inl f => cases h
  | inr q0 =>
    obtain ⟨a1, a2, a3⟩ := h
    have hb : bst tk vl (false, q.1, P, q.2) (.inr (true, q.1 + 1, 10 :: P, q.2)) := by
      unfold bst
      dsimp only
      rw [if_neg (by decide), if_pos ht, stl_no hP]
    cases r2 with
    | inl f => exact (a1 _).mpr ((bR_step hb _).mpr h2)
    | inr u =>
      obtain ⟨b1, b2, b3⟩ := h2
      dsimp only at b2 b3
      refine ⟨fun x => ?_, ?_, by show q0.1 ≤ u.1; omega⟩
      · rw [a1 x, bR_step hb x]
        refine (b1 x).trans ?_
        rw [dCn_no (fun p Q e => by cases e; decide)]
        exact bR_and x
      · show (u.2 ++ _).length + q0.1 ≤ q0.2.length + u.1
        rw [List.length_append]
        show u.2.length + 1 + q0.1 ≤ _
        omega
theorem an_next {tk vl : Nat → Int} {P : List Int} {r r2 : RS} {q : Nat × CL} (hP : ∀ p Q, P = p :: Q → p = 12) (h : alR tk vl P r (.inr q)) (ht : tk q.1 = 3) (h2 : alR tk vl (11 :: P) (.inr (q.1 + 1, q.2)) r2) (h4 : ∀ u, r2 = .inr u → tk u.1 ≠ 4) : alR tk vl P r (emR (11, 0) r2) := by
  have hp10 : ∀ p Q, P = p :: Q → p ≠ 10 := fun p Q e => by rw [hP p Q e]; decide
  have hp11 : ∀ p Q, P = p :: Q → p ≠ 11 := fun p Q e => by rw [hP p Q e]; decide
  cases r with
  | inl f => cases h
  | inr q0 =>
    obtain ⟨a1, a2, a3⟩ := h
    have hb : bst tk vl (false, q.1, P, q.2) (.inr (true, q.1 + 1, 11 :: P, q.2)) := by
      unfold bst
      dsimp only
      rw [if_neg (by decide), if_neg (by omega), if_pos ht, sAO_no hp10 hp11]
    cases r2 with
    | inl f => exact (a1 _).mpr ((bR_step hb _).mpr h2)
    | inr u =>
      obtain ⟨b1, b2, b3⟩ := h2
      dsimp only at b2 b3
      refine ⟨fun x => ?_, ?_, by show q0.1 ≤ u.1; omega⟩
      · rw [a1 x, bR_step hb x]
        exact (b1 x).trans (bR_or (h4 u rfl) hp10 x)
      · show (u.2 ++ _).length + q0.1 ≤ q0.2.length + u.1
        rw [List.length_append]
        show u.2.length + 1 + q0.1 ≤ _
        omega
theorem on_cmp {tk vl : Nat → Int} {P : List Int} {r r2 : RS} (h5 : toR tk r ≠ 5) (h40 : toR tk r ≠ 40) (h : cmB tk vl r r2) (hc : ∀ q0 q2, r = .inr q0 → r2 = .inr q2 → q2.2.length + q0.1 = q0.2.length + q2.1 ∧ q0.1 ≤ q2.1) : onR tk vl P r r2 := by
  cases r with
  | inl f => exact h
  | inr q =>
    replace h5 : tk q.1 ≠ 5 := h5
    replace h40 : tk q.1 ≠ 40 := h40
    have hb : ∀ o, (match r2 with
       | .inl f => o = (.inl (.inl f) : RS ⊕ BS)
       | .inr u => o = .inr (dCn u.1 P u.2)) → bst tk vl (true, q.1, P, q.2) o := by
      intro o ho
      unfold bst
      dsimp only
      rw [if_pos rfl, if_neg (by omega)]
      refine ⟨r2, h, ?_⟩
      cases r2 with
      | inl f => exact ho
      | inr u => exact ho
    cases r2 with
    | inl f => exact bR_done (hb _ rfl)
    | inr u =>
      have h1 := hc q u rfl rfl
      exact ⟨fun x => bR_step (hb _ rfl) x, by omega, h1.2⟩
theorem on_not {tk vl : Nat → Int} {P : List Int} {r2 : RS} {q : Nat × CL} (h5 : tk q.1 = 5) (h8 : cnO P ≠ 8) (h : onR tk vl (9 :: P) (.inr (q.1 + 1, q.2)) r2) : onR tk vl P (.inr q) (emR (9, 0) r2) := by
  have hb : bst tk vl (true, q.1, P, q.2) (.inr (true, q.1 + 1, 9 :: P, q.2)) := by
    unfold bst
    dsimp only
    rw [if_pos rfl, if_pos (Or.inl h5), if_neg h8, if_pos h5]
  cases r2 with
  | inl f => exact (bR_step hb _).mpr h
  | inr u =>
    obtain ⟨b1, b2, b3⟩ := h
    dsimp only at b2 b3
    refine ⟨fun x => ?_, ?_, by show q.1 ≤ u.1; omega⟩
    · rw [bR_step hb x, b1 x, dCn_not]
    · show (u.2 ++ _).length + q.1 ≤ q.2.length + u.1
      rw [List.length_append]
      show u.2.length + 1 + q.1 ≤ _
      omega
theorem on_br {tk vl : Nat → Int} {P : List Int} {r2 : RS} {q : Nat × CL} (h40 : tk q.1 = 40) (h8 : cnO P ≠ 8) (h : alR tk vl (12 :: P) (.inr (q.1 + 1, q.2)) r2) (h34 : ∀ u, r2 = .inr u → tk u.1 ≠ 4 ∧ tk u.1 ≠ 3) : onR tk vl P (.inr q) (dmR tk 41 r2) := by
  have hb : bst tk vl (true, q.1, P, q.2) (.inr (true, q.1 + 1, 12 :: P, q.2)) := by
    unfold bst
    dsimp only
    rw [if_pos rfl, if_pos (Or.inr h40), if_neg h8, if_neg (show ¬ tk q.1 = 5 by omega)]
  cases r2 with
  | inl f => exact (bR_step hb _).mpr h
  | inr u =>
    obtain ⟨b1, b2, b3⟩ := h
    dsimp only at b2 b3
    have hu := h34 u rfl
    have hs : sAO (12 :: P) u.2 = (12 :: P, u.2) := sAO_no (fun p Q e => by cases e; decide) (fun p Q e => by cases e; decide)
    have hcb : cnB (12 :: P) ≠ 0 := by show cnB P + (if (12 : Int) = 12 then 1 else 0) ≠ 0; rw [if_pos rfl]; omega
    show onR tk vl P (.inr q) (if tk u.1 = 41 then .inr (u.1 + 1, u.2) else .inl (1, u.1))
    by_cases w : tk u.1 = 41
    · rw [if_pos w]
      have hb2 : bst tk vl (false, u.1, 12 :: P, u.2) (.inr (dCn (u.1 + 1) P u.2)) := by
        unfold bst
        dsimp only
        rw [if_neg (by decide), if_neg hu.1, if_neg hu.2, hs, if_neg hcb, if_pos w]
        rfl
      refine ⟨fun x => ?_, by show u.2.length + q.1 ≤ q.2.length + (u.1 + 1); omega, by show q.1 ≤ u.1 + 1; omega⟩
      rw [bR_step hb x, b1 x, bR_step hb2 x]
    · rw [if_neg w]
      have hb2 : bst tk vl (false, u.1, 12 :: P, u.2) (.inl (.inl (1, u.1))) := by
        unfold bst
        dsimp only
        rw [if_neg (by decide), if_neg hu.1, if_neg hu.2, hs, if_neg hcb, if_neg w]
      exact (bR_step hb _).mpr ((b1 _).mpr (bR_done hb2))
theorem on_full {tk vl : Nat → Int} {P : List Int} {q : Nat × CL} (ht : tk q.1 = 5 ∨ tk q.1 = 40) (h8 : cnO P = 8) : onR tk vl P (.inr q) (rfR 3 (.inr q)) := by
  refine bR_done ?_
  unfold bst
  dsimp only
  rw [if_pos rfl, if_pos ht, if_pos h8]
def oneP (l : Launch) (g : ot_G) (ln : Nat) (ext : ot_L) (μb : ot_M) (tk vl pl : Nat → Int) (K b : Nat) (F0 : Int → Int) (op D : Nat) : Prop := ∀ (μ : ot_M) (P : List Int) (r : RS), cnO P = op → stC μb tk pl K b F0 r μ → (∀ q, r = .inr q → b + q.2.length + nbP P ≤ q.1) → ot_C l g yX4_readOne cX4_readOne 2 none D 0 0 [.inr 49, .inl (op : Int)] (LL ln ext) μ (ot_pv (fun L2 μ2 => L2 = LL ln ext ∧ ∃ r2, onR tk vl P r r2 ∧ stC μb tk pl K b F0 r2 μ2))
def allP (l : Launch) (g : ot_G) (ln : Nat) (ext : ot_L) (μb : ot_M) (tk vl pl : Nat → Int) (K b : Nat) (F0 : Int → Int) (op D : Nat) : Prop := ∀ (μ : ot_M) (P : List Int) (r : RS), cnO P = op → (∀ p Q, P = p :: Q → p ≠ 9 ∧ p ≠ 10) → stC μb tk pl K b F0 r μ → (∀ q, r = .inr q → b + q.2.length + nbP P ≤ q.1) → ot_C l g yX4_readAll cX4_readAll 3 none D 0 0 [.inr 49, .inl (op : Int)] (LL ln ext) μ (ot_pv (fun L2 μ2 => L2 = LL ln ext ∧ ∃ r2, alR tk vl P r r2 ∧ stC μb tk pl K b F0 r2 μ2 ∧ ∀ u, r2 = .inr u → tk u.1 ≠ 4))
def anyP (l : Launch) (g : ot_G) (ln : Nat) (ext : ot_L) (μb : ot_M) (tk vl pl : Nat → Int) (K b : Nat) (F0 : Int → Int) (op D : Nat) : Prop := ∀ (μ : ot_M) (P : List Int) (r : RS), cnO P = op → (∀ p Q, P = p :: Q → p = 12) → stC μb tk pl K b F0 r μ → (∀ q, r = .inr q → b + q.2.length + nbP P ≤ q.1) → ot_C l g yX4_readAny cX4_readAny 3 none D 0 0 [.inr 49, .inl (op : Int)] (LL ln ext) μ (ot_pv (fun L2 μ2 => L2 = LL ln ext ∧ ∃ r2, alR tk vl P r r2 ∧ stC μb tk pl K b F0 r2 μ2 ∧ ∀ u, r2 = .inr u → tk u.1 ≠ 4 ∧ tk u.1 ≠ 3))
set_option maxRecDepth 100000 in
set_option maxHeartbeats 1000000 in
theorem c_allOf (l : Launch) (g : ot_G) (ln : Nat) (ext : ot_L) (μb : ot_M) (tk vl pl : Nat → Int) (K b : Nat) (F0 : Int → Int) (hg : gTk μb K tk vl pl) (op D : Nat) (hop : op ≤ 8) (hone : oneP l g ln ext μb tk vl pl K b F0 op D) : allP l g ln ext μb tk vl pl K b F0 op (D + 1) := by
  intro μ P r hcn hP hs hroom
  refine ot_enter (by decide) (Nat.le_of_ble_eq_true rfl) ?_
  intro p e s m args below meth c X hr
  have hK := hg.1
  have h41 := hg.2.1
  have h4 := stC_4 hs
  have h5 := stC_5 hs
  have h7 := stC_7 hs
  have h8 := stC_8 hs
  have htr := toR_rng (r := r) hg
  refine tt_aload_n X rfl dX4_readAll_0 ?_
  refine tt_iload_n X rfl dX4_readAll_1 ?_
  refine tt_vv X rfl mX4_124 (hone _ P r hcn hs hroom) (k_49 _ _) ⟨_, rfl, rfl⟩ rfl rfl (Nat.le_of_ble_eq_true rfl) (by omega) (by decide) (by decide) dX4_readAll_2 (fun L2 μ2 hp => ?_)
  obtain ⟨rfl, r1, hr1, hs1⟩ := hp
  refine tt_iconst X dX4_readAll_5 ?_
  refine tt_istore_n X dX4_readAll_6 (by decide) ?_
  refine tt_loc [(0, _), (1, _), (2, _)] ⟨rfl, rfl, rfl, trivial⟩ ?_
  refine tt_loop (α := Nat × ot_M × RS) (fun ((i, σ, r1)) => 400 - i) (fun ((i, σ, r1)) => stC μb tk pl K b F0 r1 σ ∧ i ≤ 400 ∧ alR tk vl P r r1 ∧ (∀ q, r1 = .inr q → i ≤ q.1)) (fun ((i, σ, r1)) => σ) (fun ((i, σ, r1)) => [(0, .inr 49), (1, .inl (op : Int)), (2, .inl (i : Int))]) (0, μ2, r1) ⟨hs1, by show 0 ≤ 400; decide, on_al (fun p Q e => (hP p Q e).1) hr1, fun q _ => Nat.zero_le _⟩ ?_
  intro a hI ih
  obtain ⟨i, σ, r1⟩ := a
  try dsimp only at hI ih ⊢
  replace hI : stC μb tk pl K b F0 r1 σ ∧ i ≤ 400 ∧ alR tk vl P r r1 ∧ (∀ q, r1 = .inr q → i ≤ q.1) := hI
  have hi4 := hI.2.1
  have htr1 := toR_rng (r := r1) hg
  refine tt_iload_n X rfl dX4_readAll_7 ?_
  refine tt_sipush X (by decide) dX4_readAll_8 ?_
  refine tt_icmp_gt X 43 (by first | omega | (simp (disch := decide) only [ot_rd, ot_rs, ot_rf, ot_ucd, ot_ucs]; omega)) dX4_readAll_11 (by decide) (fun b11 => ?_) (fun b11 => ?_)
  · exact absurd b11 (by omega)
  · refine tt_aload_n X rfl dX4_readAll_14 ?_
    refine tt_geti X fX4_54 (k_49 _ _) (by decide) (Or.inl rfl) dX4_readAll_15 ?_
    try simp (disch := decide) only [ot_rd, ot_rs, ot_rf, ot_ucd, ot_ucs]
    refine tt_top (stC_tok hI.1) ?_
    refine tt_iconst X dX4_readAll_18 ?_
    refine tt_icmp_ne X 43 (by first | omega | (simp (disch := decide) only [ot_rd, ot_rs, ot_rf, ot_ucd, ot_ucs]; omega)) dX4_readAll_19 (by decide) (fun b19 => ?_) (fun b19 => ?_)
    · refine tt_vret X ⟨hr.1, hr.2.1⟩ (by decide) (by decide) dX4_readAll_43 ?_
      refine ⟨rfl, r1, hI.2.2.1, hI.1, fun u hu => ?_⟩
      subst hu
      have e0 : toR tk (.inr u) = tk u.1 := rfl
      omega
    · obtain ⟨q, rfl⟩ := toR_in (r := r1) (tk := tk) (by omega)
      have e0 : toR tk (.inr q) = tk q.1 := rfl
      have hat := stC_at hI.1
      have hiq := hI.2.2.2 q rfl
      have hq0 : ∃ q0, r = .inr q0 := by
        have h1 := hI.2.2.1
        cases r with
        | inl f => cases h1
        | inr q0 => exact ⟨q0, rfl⟩
      obtain ⟨q0, hq0⟩ := hq0
      have hr0 := hroom q0 hq0
      have hgr : q.2.length + q0.1 ≤ q0.2.length + q.1 := by
        have h1 := hI.2.2.1
        rw [hq0] at h1
        exact h1.2.1
      have hqK : q.1 < K := by
        apply Classical.byContradiction
        intro w3
        have hq : q.1 = K := by omega
        have := hg.2.2.2.1
        rw [← hq] at this
        omega
      have hrm : ∀ q2, stR (.inr q) = .inr q2 → b + q2.2.length + nbP (10 :: P) ≤ q2.1 := fun q2 hq2 => by
        cases hq2
        show b + q.2.length + (nbP P + 1) ≤ q.1 + 1
        omega
      refine tt_aload_n X rfl dX4_readAll_22 ?_
      refine tt_vv X rfl mX4_95 (c_step l g ln ext _ (stC_8 hI.1) (by have := stC_5 hI.1; omega) (by have := stC_4 hI.1; omega)) (k_49 _ _) ⟨_, rfl, rfl⟩ rfl rfl (Nat.le_of_ble_eq_true rfl) (by omega) (by decide) (by decide) dX4_readAll_23 (fun L23 μ23 hp => ?_)
      obtain ⟨rfl, e23⟩ := hp
      have hs23 := stC_step hg hI.1 (by omega) e23
      refine tt_aload_n X rfl dX4_readAll_26 ?_
      refine tt_iload_n X rfl dX4_readAll_27 ?_
      refine tt_vv X rfl mX4_124 (hone _ (10 :: P) _ (by show cnO P + (if (10 : Int) = 9 ∨ (10 : Int) = 12 then 1 else 0) = op; rw [if_neg (by decide)]; exact hcn) hs23 hrm) (k_49 _ _) ⟨_, rfl, rfl⟩ rfl rfl (Nat.le_of_ble_eq_true rfl) (by omega) (by decide) (by decide) dX4_readAll_28 (fun L28 μ28 hp => ?_)
      obtain ⟨rfl, r2, hr2, hs2⟩ := hp
      refine tt_aload_n X rfl dX4_readAll_31 ?_
      refine tt_bipush X (by decide) dX4_readAll_32 ?_
      refine tt_vv X rfl mX4_121 (c_emit l g ln ext _ _ (stC_7 hs2)) (k_49 _ _) ⟨_, rfl, rfl⟩ rfl rfl (Nat.le_of_ble_eq_true rfl) (by omega) (by decide) (by decide) dX4_readAll_34 (fun L34 μ34 hp => ?_)
      obtain ⟨rfl, e34⟩ := hp
      have hs34 := stC_emit (x := (10, 0)) hs2 (fun u hu => by
        subst hu
        have h1 := hr2
        obtain ⟨_, b2, b3⟩ := h1
        dsimp only at b2 b3
        have hk2 := (stC_at hs2).2.1
        exact ⟨rfl, by omega⟩) e34
      refine tt_iinc X dX4_readAll_37 rfl (by decide) ?_
      refine tt_goto X 7 dX4_readAll_40 (by decide) ?_
      refine tt_loc [(0, _), (1, _), (2, _)] ⟨rfl, rfl, rfl, trivial⟩ ?_
      exact ih (i + 1, _, _) ⟨hs34, by show i + 1 ≤ 400; omega, al_next (fun p Q e => (hP p Q e).2) hI.2.2.1 (by omega) hr2, fun u hu => by
        cases r2 with
        | inl f => cases hu
        | inr v =>
          cases hu
          have h1 := hr2.2.2
          dsimp only at h1
          show i + 1 ≤ v.1
          omega⟩ (by show 400 - (i + 1) < 400 - i; omega)
set_option maxRecDepth 100000 in
set_option maxHeartbeats 1000000 in
theorem c_anyOf (l : Launch) (g : ot_G) (ln : Nat) (ext : ot_L) (μb : ot_M) (tk vl pl : Nat → Int) (K b : Nat) (F0 : Int → Int) (hg : gTk μb K tk vl pl) (op D : Nat) (hop : op ≤ 8) (hall : allP l g ln ext μb tk vl pl K b F0 op D) : anyP l g ln ext μb tk vl pl K b F0 op (D + 1) := by
  intro μ P r hcn hP hs hroom
  refine ot_enter (by decide) (Nat.le_of_ble_eq_true rfl) ?_
  intro p e s m args below meth c X hr
  have hK := hg.1
  have h41 := hg.2.1
  have h4 := stC_4 hs
  have h5 := stC_5 hs
  have h7 := stC_7 hs
  have h8 := stC_8 hs
  have htr := toR_rng (r := r) hg
  refine tt_aload_n X rfl dX4_readAny_0 ?_
  refine tt_iload_n X rfl dX4_readAny_1 ?_
  refine tt_vv X rfl mX4_118 (hall _ P r hcn (fun p Q e => by rw [hP p Q e]; decide) hs hroom) (k_49 _ _) ⟨_, rfl, rfl⟩ rfl rfl (Nat.le_of_ble_eq_true rfl) (by omega) (by decide) (by decide) dX4_readAny_2 (fun L2 μ2 hp => ?_)
  obtain ⟨rfl, r1, hr1, hs1, hn1⟩ := hp
  refine tt_iconst X dX4_readAny_5 ?_
  refine tt_istore_n X dX4_readAny_6 (by decide) ?_
  refine tt_loc [(0, _), (1, _), (2, _)] ⟨rfl, rfl, rfl, trivial⟩ ?_
  refine tt_loop (α := Nat × ot_M × RS) (fun ((i, σ, r1)) => 400 - i) (fun ((i, σ, r1)) => stC μb tk pl K b F0 r1 σ ∧ i ≤ 400 ∧ alR tk vl P r r1 ∧ (∀ q, r1 = .inr q → i ≤ q.1) ∧ (∀ q, r1 = .inr q → tk q.1 ≠ 4)) (fun ((i, σ, r1)) => σ) (fun ((i, σ, r1)) => [(0, .inr 49), (1, .inl (op : Int)), (2, .inl (i : Int))]) (0, μ2, r1) ⟨hs1, by show 0 ≤ 400; decide, hr1, fun q _ => Nat.zero_le _, hn1⟩ ?_
  intro a hI ih
  obtain ⟨i, σ, r1⟩ := a
  try dsimp only at hI ih ⊢
  replace hI : stC μb tk pl K b F0 r1 σ ∧ i ≤ 400 ∧ alR tk vl P r r1 ∧ (∀ q, r1 = .inr q → i ≤ q.1) ∧ (∀ q, r1 = .inr q → tk q.1 ≠ 4) := hI
  have hi4 := hI.2.1
  have htr1 := toR_rng (r := r1) hg
  refine tt_iload_n X rfl dX4_readAny_7 ?_
  refine tt_sipush X (by decide) dX4_readAny_8 ?_
  refine tt_icmp_gt X 43 (by first | omega | (simp (disch := decide) only [ot_rd, ot_rs, ot_rf, ot_ucd, ot_ucs]; omega)) dX4_readAny_11 (by decide) (fun b11 => ?_) (fun b11 => ?_)
  · exact absurd b11 (by omega)
  · refine tt_aload_n X rfl dX4_readAny_14 ?_
    refine tt_geti X fX4_54 (k_49 _ _) (by decide) (Or.inl rfl) dX4_readAny_15 ?_
    try simp (disch := decide) only [ot_rd, ot_rs, ot_rf, ot_ucd, ot_ucs]
    refine tt_top (stC_tok hI.1) ?_
    refine tt_iconst X dX4_readAny_18 ?_
    refine tt_icmp_ne X 43 (by first | omega | (simp (disch := decide) only [ot_rd, ot_rs, ot_rf, ot_ucd, ot_ucs]; omega)) dX4_readAny_19 (by decide) (fun b19 => ?_) (fun b19 => ?_)
    · refine tt_vret X ⟨hr.1, hr.2.1⟩ (by decide) (by decide) dX4_readAny_43 ?_
      refine ⟨rfl, r1, hI.2.2.1, hI.1, fun u hu => ?_⟩
      subst hu
      have e0 : toR tk (.inr u) = tk u.1 := rfl
      exact ⟨hI.2.2.2.2 u rfl, by omega⟩
    · obtain ⟨q, rfl⟩ := toR_in (r := r1) (tk := tk) (by omega)
      have e0 : toR tk (.inr q) = tk q.1 := rfl
      have hat := stC_at hI.1
      have hiq := hI.2.2.2.1 q rfl
      have hq0 : ∃ q0, r = .inr q0 := by
        have h1 := hI.2.2.1
        cases r with
        | inl f => cases h1
        | inr q0 => exact ⟨q0, rfl⟩
      obtain ⟨q0, hq0⟩ := hq0
      have hr0 := hroom q0 hq0
      have hgr : q.2.length + q0.1 ≤ q0.2.length + q.1 := by
        have h1 := hI.2.2.1
        rw [hq0] at h1
        exact h1.2.1
      have hqK : q.1 < K := by
        apply Classical.byContradiction
        intro w3
        have hq : q.1 = K := by omega
        have := hg.2.2.2.1
        rw [← hq] at this
        omega
      have hrm : ∀ q2, stR (.inr q) = .inr q2 → b + q2.2.length + nbP (11 :: P) ≤ q2.1 := fun q2 hq2 => by
        cases hq2
        show b + q.2.length + (nbP P + 1) ≤ q.1 + 1
        omega
      refine tt_aload_n X rfl dX4_readAny_22 ?_
      refine tt_vv X rfl mX4_95 (c_step l g ln ext _ (stC_8 hI.1) (by have := stC_5 hI.1; omega) (by have := stC_4 hI.1; omega)) (k_49 _ _) ⟨_, rfl, rfl⟩ rfl rfl (Nat.le_of_ble_eq_true rfl) (by omega) (by decide) (by decide) dX4_readAny_23 (fun L23 μ23 hp => ?_)
      obtain ⟨rfl, e23⟩ := hp
      have hs23 := stC_step hg hI.1 (by omega) e23
      refine tt_aload_n X rfl dX4_readAny_26 ?_
      refine tt_iload_n X rfl dX4_readAny_27 ?_
      refine tt_vv X rfl mX4_118 (hall _ (11 :: P) _ (by show cnO P + (if (11 : Int) = 9 ∨ (11 : Int) = 12 then 1 else 0) = op; rw [if_neg (by decide)]; exact hcn) (fun p Q e => by cases e; decide) hs23 hrm) (k_49 _ _) ⟨_, rfl, rfl⟩ rfl rfl (Nat.le_of_ble_eq_true rfl) (by omega) (by decide) (by decide) dX4_readAny_28 (fun L28 μ28 hp => ?_)
      obtain ⟨rfl, r2, hr2, hs2, hn2⟩ := hp
      refine tt_aload_n X rfl dX4_readAny_31 ?_
      refine tt_bipush X (by decide) dX4_readAny_32 ?_
      refine tt_vv X rfl mX4_121 (c_emit l g ln ext _ _ (stC_7 hs2)) (k_49 _ _) ⟨_, rfl, rfl⟩ rfl rfl (Nat.le_of_ble_eq_true rfl) (by omega) (by decide) (by decide) dX4_readAny_34 (fun L34 μ34 hp => ?_)
      obtain ⟨rfl, e34⟩ := hp
      have hs34 := stC_emit (x := (11, 0)) hs2 (fun u hu => by
        subst hu
        have h1 := hr2
        obtain ⟨_, b2, b3⟩ := h1
        dsimp only at b2 b3
        have hk2 := (stC_at hs2).2.1
        exact ⟨rfl, by omega⟩) e34
      refine tt_iinc X dX4_readAny_37 rfl (by decide) ?_
      refine tt_goto X 7 dX4_readAny_40 (by decide) ?_
      refine tt_loc [(0, _), (1, _), (2, _)] ⟨rfl, rfl, rfl, trivial⟩ ?_
      exact ih (i + 1, _, _) ⟨hs34, by show i + 1 ≤ 400; omega, an_next hP hI.2.2.1 (by omega) hr2 hn2, fun u hu => by
        cases r2 with
        | inl f => cases hu
        | inr v =>
          cases hu
          have h1 := hr2.2.2
          dsimp only at h1
          show i + 1 ≤ v.1
          omega, fun u hu => by
        cases r2 with
        | inl f => cases hu
        | inr v =>
          cases hu
          exact hn2 v rfl⟩ (by show 400 - (i + 1) < 400 - i; omega)
set_option maxRecDepth 100000 in
set_option maxHeartbeats 1000000 in
theorem c_one8 (l : Launch) (g : ot_G) (ln : Nat) (ext : ot_L) (μb : ot_M) (tk vl pl : Nat → Int) (K b : Nat) (F0 : Int → Int) (hg : gTk μb K tk vl pl)  : oneP l g ln ext μb tk vl pl K b F0 8 5 := by
  intro μ P r hcn hs hroom
  refine ot_enter (by decide) (Nat.le_of_ble_eq_true rfl) ?_
  intro p e s m args below meth c X hr
  have hK := hg.1
  have h41 := hg.2.1
  have h4 := stC_4 hs
  have h5 := stC_5 hs
  have h7 := stC_7 hs
  have h8 := stC_8 hs
  have htr := toR_rng (r := r) hg
  refine tt_aload_n X rfl dX4_readOne_0 ?_
  refine tt_geti X fX4_54 (k_49 _ _) (by decide) (Or.inl rfl) dX4_readOne_1 ?_
  refine tt_top (stC_tok hs) ?_
  refine tt_iconst X dX4_readOne_4 ?_
  refine tt_icmp_eq X 24 (by omega) dX4_readOne_5 (by decide) (fun b5 => ?_) (fun b5 => ?_)
  · refine tt_iload_n X rfl dX4_readOne_24 ?_
    refine tt_bipush X (by decide) dX4_readOne_25 ?_
    refine tt_icmp_lt X 38 (by omega) dX4_readOne_27 (by decide) (fun b27 => ?_) (fun b27 => ?_)
    · exact absurd b27 (by omega)
    · refine tt_aload_n X rfl dX4_readOne_30 ?_
      refine tt_iconst X dX4_readOne_31 ?_
      refine tt_vv X rfl mX4_98 (c_refuse l g ln ext _ _ (stC_8 hs) (by have := stC_5 hs; omega)) (k_49 _ _) ⟨_, rfl, rfl⟩ rfl rfl (Nat.le_of_ble_eq_true rfl) (by omega) (by decide) (by decide) dX4_readOne_32 (fun L32 μ32 hp => ?_)
      obtain ⟨rfl, e32⟩ := hp
      have hs32 := stC_ref hg hs (k := 3) (by omega) e32
      refine tt_goto X 83 dX4_readOne_35 (by decide) ?_
      refine tt_vret X ⟨hr.1, hr.2.1⟩ (by decide) (by decide) dX4_readOne_83 ?_
      refine ⟨rfl, ?_⟩
      first
        | exact ⟨r2, on_cmp (by omega) (by omega) hr2 hc2, hs2⟩
        | (obtain ⟨q, rfl⟩ := toR_in (r := r) (tk := tk) (by omega)
           have e0 : toR tk (.inr q) = tk q.1 := rfl
           exact ⟨_, on_full (by omega) hcn, hs32⟩)
  · refine tt_aload_n X rfl dX4_readOne_8 ?_
    refine tt_geti X fX4_54 (k_49 _ _) (by decide) (Or.inl rfl) dX4_readOne_9 ?_
    refine tt_top (stC_tok hs) ?_
    refine tt_bipush X (by decide) dX4_readOne_12 ?_
    refine tt_icmp_eq X 24 (by omega) dX4_readOne_14 (by decide) (fun b14 => ?_) (fun b14 => ?_)
    · refine tt_iload_n X rfl dX4_readOne_24 ?_
      refine tt_bipush X (by decide) dX4_readOne_25 ?_
      refine tt_icmp_lt X 38 (by omega) dX4_readOne_27 (by decide) (fun b27 => ?_) (fun b27 => ?_)
      · exact absurd b27 (by omega)
      · refine tt_aload_n X rfl dX4_readOne_30 ?_
        refine tt_iconst X dX4_readOne_31 ?_
        refine tt_vv X rfl mX4_98 (c_refuse l g ln ext _ _ (stC_8 hs) (by have := stC_5 hs; omega)) (k_49 _ _) ⟨_, rfl, rfl⟩ rfl rfl (Nat.le_of_ble_eq_true rfl) (by omega) (by decide) (by decide) dX4_readOne_32 (fun L32 μ32 hp => ?_)
        obtain ⟨rfl, e32⟩ := hp
        have hs32 := stC_ref hg hs (k := 3) (by omega) e32
        refine tt_goto X 83 dX4_readOne_35 (by decide) ?_
        refine tt_vret X ⟨hr.1, hr.2.1⟩ (by decide) (by decide) dX4_readOne_83 ?_
        refine ⟨rfl, ?_⟩
        first
          | exact ⟨r2, on_cmp (by omega) (by omega) hr2 hc2, hs2⟩
          | (obtain ⟨q, rfl⟩ := toR_in (r := r) (tk := tk) (by omega)
             have e0 : toR tk (.inr q) = tk q.1 := rfl
             exact ⟨_, on_full (by omega) hcn, hs32⟩)
    · refine tt_aload_n X rfl dX4_readOne_17 ?_
      refine tt_vv X rfl mX4_127 (c_readComparison l g ln ext _ μb tk vl pl K b F0 hg _ hs (fun q hq => by have := hroom q hq; omega)) (k_49 _ _) ⟨_, rfl, rfl⟩ rfl rfl (Nat.le_of_ble_eq_true rfl) (by omega) (by decide) (by decide) dX4_readOne_18 (fun L18 μ18 hp => ?_)
      obtain ⟨rfl, r2, hr2, hs2, hc2⟩ := hp
      refine tt_goto X 83 dX4_readOne_21 (by decide) ?_
      refine tt_vret X ⟨hr.1, hr.2.1⟩ (by decide) (by decide) dX4_readOne_83 ?_
      refine ⟨rfl, ?_⟩
      first
        | exact ⟨r2, on_cmp (by omega) (by omega) hr2 hc2, hs2⟩
        | (obtain ⟨q, rfl⟩ := toR_in (r := r) (tk := tk) (by omega)
           have e0 : toR tk (.inr q) = tk q.1 := rfl
           exact ⟨_, on_full (by omega) hcn, hs32⟩)
set_option maxRecDepth 100000 in
set_option maxHeartbeats 1000000 in
theorem c_oneS (l : Launch) (g : ot_G) (ln : Nat) (ext : ot_L) (μb : ot_M) (tk vl pl : Nat → Int) (K b : Nat) (F0 : Int → Int) (hg : gTk μb K tk vl pl) (op D : Nat) (hop : op < 8) (hD : 5 ≤ D) (hone : oneP l g ln ext μb tk vl pl K b F0 (op + 1) D) (hany : anyP l g ln ext μb tk vl pl K b F0 (op + 1) (D + 2)) : oneP l g ln ext μb tk vl pl K b F0 op (D + 3) := by
  intro μ P r hcn hs hroom
  refine ot_enter (by decide) (Nat.le_of_ble_eq_true rfl) ?_
  intro p e s m args below meth c X hr
  have hK := hg.1
  have h41 := hg.2.1
  have h4 := stC_4 hs
  have h5 := stC_5 hs
  have h7 := stC_7 hs
  have h8 := stC_8 hs
  have htr := toR_rng (r := r) hg
  refine tt_aload_n X rfl dX4_readOne_0 ?_
  refine tt_geti X fX4_54 (k_49 _ _) (by decide) (Or.inl rfl) dX4_readOne_1 ?_
  refine tt_top (stC_tok hs) ?_
  refine tt_iconst X dX4_readOne_4 ?_
  refine tt_icmp_eq X 24 (by omega) dX4_readOne_5 (by decide) (fun b5 => ?_) (fun b5 => ?_)
  · refine tt_iload_n X rfl dX4_readOne_24 ?_
    refine tt_bipush X (by decide) dX4_readOne_25 ?_
    refine tt_icmp_lt X 38 (by omega) dX4_readOne_27 (by decide) (fun b27 => ?_) (fun b27 => ?_)
    · refine tt_aload_n X rfl dX4_readOne_38 ?_
      refine tt_geti X fX4_54 (k_49 _ _) (by decide) (Or.inl rfl) dX4_readOne_39 ?_
      refine tt_top (stC_tok hs) ?_
      refine tt_iconst X dX4_readOne_42 ?_
      refine tt_icmp_ne X 66 (by omega) dX4_readOne_43 (by decide) (fun b43 => ?_) (fun b43 => ?_)
      · obtain ⟨q, rfl⟩ := toR_in (r := r) (tk := tk) (by omega)
        have e0 : toR tk (.inr q) = tk q.1 := rfl
        have hat := stC_at hs
        have hr0 := hroom q rfl
        refine tt_aload_n X rfl dX4_readOne_66 ?_
        refine tt_vv X rfl mX4_95 (c_step l g ln ext _ (stC_8 hs) (by have := stC_5 hs; omega) (by have := stC_4 hs; omega)) (k_49 _ _) ⟨_, rfl, rfl⟩ rfl rfl (Nat.le_of_ble_eq_true rfl) (by omega) (by decide) (by decide) dX4_readOne_67 (fun L67 μ67 hp => ?_)
        obtain ⟨rfl, e67⟩ := hp
        have hs67 := stC_step hg hs (by omega) e67
        refine tt_aload_n X rfl dX4_readOne_70 ?_
        refine tt_iload_n X rfl dX4_readOne_71 ?_
        refine tt_iconst X dX4_readOne_72 ?_
        refine tt_iadd X dX4_readOne_73 ?_
        refine tt_vv X rfl mX4_109 (hany _ (12 :: P) _ (by show cnO P + (if (12 : Int) = 9 ∨ (12 : Int) = 12 then 1 else 0) = op + 1; rw [if_pos (Or.inr rfl), hcn]) (fun p Q e => by cases e; rfl) hs67 (fun q2 hq2 => by cases hq2; show b + q.2.length + (nbP P + 0) ≤ q.1 + 1; omega)) (k_49 _ _) ⟨_, rfl, rfl⟩ rfl rfl (Nat.le_of_ble_eq_true rfl) (by omega) (by decide) (by decide) dX4_readOne_74 (fun L74 μ74 hp => ?_)
        obtain ⟨rfl, r2, hr2, hs2, hn2⟩ := hp
        refine tt_aload_n X rfl dX4_readOne_77 ?_
        refine tt_bipush X (by decide) dX4_readOne_78 ?_
        refine tt_vv X rfl mX4_112 (c_demand l g ln ext _ 41 (Or.inr rfl) μb tk vl pl K b F0 hg _ hs2) (k_49 _ _) ⟨_, rfl, rfl⟩ rfl rfl (Nat.le_of_ble_eq_true rfl) (by omega) (by decide) (by decide) dX4_readOne_80 (fun L80 μ80 hp => ?_)
        obtain ⟨rfl, hs80⟩ := hp
        refine tt_vret X ⟨hr.1, hr.2.1⟩ (by decide) (by decide) dX4_readOne_83 ?_
        refine ⟨rfl, ?_⟩
        first
          | exact ⟨r2, on_cmp (by omega) (by omega) hr2 hc2, hs2⟩
          | exact ⟨_, on_not (by omega) (by omega) hr2, hs60⟩
          | exact ⟨_, on_br (by omega) (by omega) hr2 hn2, hs80⟩
      · obtain ⟨q, rfl⟩ := toR_in (r := r) (tk := tk) (by omega)
        have e0 : toR tk (.inr q) = tk q.1 := rfl
        have hat := stC_at hs
        have hr0 := hroom q rfl
        refine tt_aload_n X rfl dX4_readOne_46 ?_
        refine tt_vv X rfl mX4_95 (c_step l g ln ext _ (stC_8 hs) (by have := stC_5 hs; omega) (by have := stC_4 hs; omega)) (k_49 _ _) ⟨_, rfl, rfl⟩ rfl rfl (Nat.le_of_ble_eq_true rfl) (by omega) (by decide) (by decide) dX4_readOne_47 (fun L47 μ47 hp => ?_)
        obtain ⟨rfl, e47⟩ := hp
        have hs47 := stC_step hg hs (by omega) e47
        refine tt_aload_n X rfl dX4_readOne_50 ?_
        refine tt_iload_n X rfl dX4_readOne_51 ?_
        refine tt_iconst X dX4_readOne_52 ?_
        refine tt_iadd X dX4_readOne_53 ?_
        refine tt_vv X rfl mX4_124 (hone _ (9 :: P) _ (by show cnO P + (if (9 : Int) = 9 ∨ (9 : Int) = 12 then 1 else 0) = op + 1; rw [if_pos (Or.inl rfl), hcn]) hs47 (fun q2 hq2 => by cases hq2; show b + q.2.length + (nbP P + 1) ≤ q.1 + 1; omega)) (k_49 _ _) ⟨_, rfl, rfl⟩ rfl rfl (Nat.le_of_ble_eq_true rfl) (by omega) (by decide) (by decide) dX4_readOne_54 (fun L54 μ54 hp => ?_)
        obtain ⟨rfl, r2, hr2, hs2⟩ := hp
        refine tt_aload_n X rfl dX4_readOne_57 ?_
        refine tt_bipush X (by decide) dX4_readOne_58 ?_
        refine tt_vv X rfl mX4_121 (c_emit l g ln ext _ _ (stC_7 hs2)) (k_49 _ _) ⟨_, rfl, rfl⟩ rfl rfl (Nat.le_of_ble_eq_true rfl) (by omega) (by decide) (by decide) dX4_readOne_60 (fun L60 μ60 hp => ?_)
        obtain ⟨rfl, e60⟩ := hp
        have hs60 := stC_emit (x := (9, 0)) hs2 (fun u hu => by
          subst hu
          have h1 := hr2
          obtain ⟨_, b2, b3⟩ := h1
          dsimp only at b2 b3
          have hk2 := (stC_at hs2).2.1
          exact ⟨rfl, by omega⟩) e60
        refine tt_goto X 83 dX4_readOne_63 (by decide) ?_
        refine tt_vret X ⟨hr.1, hr.2.1⟩ (by decide) (by decide) dX4_readOne_83 ?_
        refine ⟨rfl, ?_⟩
        first
          | exact ⟨r2, on_cmp (by omega) (by omega) hr2 hc2, hs2⟩
          | exact ⟨_, on_not (by omega) (by omega) hr2, hs60⟩
          | exact ⟨_, on_br (by omega) (by omega) hr2 hn2, hs80⟩
    · exact absurd b27 (by omega)
  · refine tt_aload_n X rfl dX4_readOne_8 ?_
    refine tt_geti X fX4_54 (k_49 _ _) (by decide) (Or.inl rfl) dX4_readOne_9 ?_
    refine tt_top (stC_tok hs) ?_
    refine tt_bipush X (by decide) dX4_readOne_12 ?_
    refine tt_icmp_eq X 24 (by omega) dX4_readOne_14 (by decide) (fun b14 => ?_) (fun b14 => ?_)
    · refine tt_iload_n X rfl dX4_readOne_24 ?_
      refine tt_bipush X (by decide) dX4_readOne_25 ?_
      refine tt_icmp_lt X 38 (by omega) dX4_readOne_27 (by decide) (fun b27 => ?_) (fun b27 => ?_)
      · refine tt_aload_n X rfl dX4_readOne_38 ?_
        refine tt_geti X fX4_54 (k_49 _ _) (by decide) (Or.inl rfl) dX4_readOne_39 ?_
        refine tt_top (stC_tok hs) ?_
        refine tt_iconst X dX4_readOne_42 ?_
        refine tt_icmp_ne X 66 (by omega) dX4_readOne_43 (by decide) (fun b43 => ?_) (fun b43 => ?_)
        · obtain ⟨q, rfl⟩ := toR_in (r := r) (tk := tk) (by omega)
          have e0 : toR tk (.inr q) = tk q.1 := rfl
          have hat := stC_at hs
          have hr0 := hroom q rfl
          refine tt_aload_n X rfl dX4_readOne_66 ?_
          refine tt_vv X rfl mX4_95 (c_step l g ln ext _ (stC_8 hs) (by have := stC_5 hs; omega) (by have := stC_4 hs; omega)) (k_49 _ _) ⟨_, rfl, rfl⟩ rfl rfl (Nat.le_of_ble_eq_true rfl) (by omega) (by decide) (by decide) dX4_readOne_67 (fun L67 μ67 hp => ?_)
          obtain ⟨rfl, e67⟩ := hp
          have hs67 := stC_step hg hs (by omega) e67
          refine tt_aload_n X rfl dX4_readOne_70 ?_
          refine tt_iload_n X rfl dX4_readOne_71 ?_
          refine tt_iconst X dX4_readOne_72 ?_
          refine tt_iadd X dX4_readOne_73 ?_
          refine tt_vv X rfl mX4_109 (hany _ (12 :: P) _ (by show cnO P + (if (12 : Int) = 9 ∨ (12 : Int) = 12 then 1 else 0) = op + 1; rw [if_pos (Or.inr rfl), hcn]) (fun p Q e => by cases e; rfl) hs67 (fun q2 hq2 => by cases hq2; show b + q.2.length + (nbP P + 0) ≤ q.1 + 1; omega)) (k_49 _ _) ⟨_, rfl, rfl⟩ rfl rfl (Nat.le_of_ble_eq_true rfl) (by omega) (by decide) (by decide) dX4_readOne_74 (fun L74 μ74 hp => ?_)
          obtain ⟨rfl, r2, hr2, hs2, hn2⟩ := hp
          refine tt_aload_n X rfl dX4_readOne_77 ?_
          refine tt_bipush X (by decide) dX4_readOne_78 ?_
          refine tt_vv X rfl mX4_112 (c_demand l g ln ext _ 41 (Or.inr rfl) μb tk vl pl K b F0 hg _ hs2) (k_49 _ _) ⟨_, rfl, rfl⟩ rfl rfl (Nat.le_of_ble_eq_true rfl) (by omega) (by decide) (by decide) dX4_readOne_80 (fun L80 μ80 hp => ?_)
          obtain ⟨rfl, hs80⟩ := hp
          refine tt_vret X ⟨hr.1, hr.2.1⟩ (by decide) (by decide) dX4_readOne_83 ?_
          refine ⟨rfl, ?_⟩
          first
            | exact ⟨r2, on_cmp (by omega) (by omega) hr2 hc2, hs2⟩
            | exact ⟨_, on_not (by omega) (by omega) hr2, hs60⟩
            | exact ⟨_, on_br (by omega) (by omega) hr2 hn2, hs80⟩
        · obtain ⟨q, rfl⟩ := toR_in (r := r) (tk := tk) (by omega)
          have e0 : toR tk (.inr q) = tk q.1 := rfl
          have hat := stC_at hs
          have hr0 := hroom q rfl
          refine tt_aload_n X rfl dX4_readOne_46 ?_
          refine tt_vv X rfl mX4_95 (c_step l g ln ext _ (stC_8 hs) (by have := stC_5 hs; omega) (by have := stC_4 hs; omega)) (k_49 _ _) ⟨_, rfl, rfl⟩ rfl rfl (Nat.le_of_ble_eq_true rfl) (by omega) (by decide) (by decide) dX4_readOne_47 (fun L47 μ47 hp => ?_)
          obtain ⟨rfl, e47⟩ := hp
          have hs47 := stC_step hg hs (by omega) e47
          refine tt_aload_n X rfl dX4_readOne_50 ?_
          refine tt_iload_n X rfl dX4_readOne_51 ?_
          refine tt_iconst X dX4_readOne_52 ?_
          refine tt_iadd X dX4_readOne_53 ?_
          refine tt_vv X rfl mX4_124 (hone _ (9 :: P) _ (by show cnO P + (if (9 : Int) = 9 ∨ (9 : Int) = 12 then 1 else 0) = op + 1; rw [if_pos (Or.inl rfl), hcn]) hs47 (fun q2 hq2 => by cases hq2; show b + q.2.length + (nbP P + 1) ≤ q.1 + 1; omega)) (k_49 _ _) ⟨_, rfl, rfl⟩ rfl rfl (Nat.le_of_ble_eq_true rfl) (by omega) (by decide) (by decide) dX4_readOne_54 (fun L54 μ54 hp => ?_)
          obtain ⟨rfl, r2, hr2, hs2⟩ := hp
          refine tt_aload_n X rfl dX4_readOne_57 ?_
          refine tt_bipush X (by decide) dX4_readOne_58 ?_
          refine tt_vv X rfl mX4_121 (c_emit l g ln ext _ _ (stC_7 hs2)) (k_49 _ _) ⟨_, rfl, rfl⟩ rfl rfl (Nat.le_of_ble_eq_true rfl) (by omega) (by decide) (by decide) dX4_readOne_60 (fun L60 μ60 hp => ?_)
          obtain ⟨rfl, e60⟩ := hp
          have hs60 := stC_emit (x := (9, 0)) hs2 (fun u hu => by
            subst hu
            have h1 := hr2
            obtain ⟨_, b2, b3⟩ := h1
            dsimp only at b2 b3
            have hk2 := (stC_at hs2).2.1
            exact ⟨rfl, by omega⟩) e60
          refine tt_goto X 83 dX4_readOne_63 (by decide) ?_
          refine tt_vret X ⟨hr.1, hr.2.1⟩ (by decide) (by decide) dX4_readOne_83 ?_
          refine ⟨rfl, ?_⟩
          first
            | exact ⟨r2, on_cmp (by omega) (by omega) hr2 hc2, hs2⟩
            | exact ⟨_, on_not (by omega) (by omega) hr2, hs60⟩
            | exact ⟨_, on_br (by omega) (by omega) hr2 hn2, hs80⟩
      · exact absurd b27 (by omega)
    · refine tt_aload_n X rfl dX4_readOne_17 ?_
      refine tt_vv X rfl mX4_127 (c_readComparison l g ln ext _ μb tk vl pl K b F0 hg _ hs (fun q hq => by have := hroom q hq; omega)) (k_49 _ _) ⟨_, rfl, rfl⟩ rfl rfl (Nat.le_of_ble_eq_true rfl) (by omega) (by decide) (by decide) dX4_readOne_18 (fun L18 μ18 hp => ?_)
      obtain ⟨rfl, r2, hr2, hs2, hc2⟩ := hp
      refine tt_goto X 83 dX4_readOne_21 (by decide) ?_
      refine tt_vret X ⟨hr.1, hr.2.1⟩ (by decide) (by decide) dX4_readOne_83 ?_
      refine ⟨rfl, ?_⟩
      first
        | exact ⟨r2, on_cmp (by omega) (by omega) hr2 hc2, hs2⟩
        | exact ⟨_, on_not (by omega) (by omega) hr2, hs60⟩
        | exact ⟨_, on_br (by omega) (by omega) hr2 hn2, hs80⟩
theorem c_readAny (l : Launch) (g : ot_G) (ln : Nat) (ext : ot_L) (μb : ot_M) (tk vl pl : Nat → Int) (K b : Nat) (F0 : Int → Int) (hg : gTk μb K tk vl pl)  : anyP l g ln ext μb tk vl pl K b F0 0 31 := by
  have key : ∀ n : Nat, n ≤ 8 → oneP l g ln ext μb tk vl pl K b F0 (8 - n) (5 + 3 * n) := by
    intro n
    induction n with
    | zero => intro _; exact c_one8 l g ln ext μb tk vl pl K b F0 hg
    | succ n ih =>
      intro hn
      have h1 := ih (by omega)
      have h2 := c_anyOf l g ln ext μb tk vl pl K b F0 hg _ _ (by omega) (c_allOf l g ln ext μb tk vl pl K b F0 hg _ _ (by omega) h1)
      rw [show 8 - n = (8 - (n + 1)) + 1 by omega] at h1 h2
      exact c_oneS l g ln ext μb tk vl pl K b F0 hg (8 - (n + 1)) (5 + 3 * n) (by omega) (by omega) h1 h2
  have h0 := key 8 (Nat.le_refl _)
  exact c_anyOf l g ln ext μb tk vl pl K b F0 hg 0 30 (by omega) (c_allOf l g ln ext μb tk vl pl K b F0 hg 0 29 (by omega) h0)

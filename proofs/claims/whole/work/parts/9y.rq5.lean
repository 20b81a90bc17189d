def qB2 (μb σ : ot_M) : Prop := (∀ k, k ≠ 60 → k ≠ 77 → k ≠ 78 → k ≠ 79 → σ k = μb k) ∧ ∀ i, i ≠ 18 → i ≠ 19 → i ≠ 20 → i ≠ 21 → i ≠ 29 → i ≠ 30 → i ≠ 32 → i ≠ 33 → i ≠ 34 → σ 60 i = μb 60 i
def pq (P : List Int) (f : Int → Int) : Prop := ∀ (i : Nat) (p : Int), P.reverse[i]? = some p → f (i : Int) = p
def qT (T : Nat → Int) (n : Nat) (μb : ot_M) (b : Nat) (f0 h0 : Int → Int) (q : Nat × CL) (P : List Int) (σ : ot_M) : Prop := qB2 μb σ ∧ qS T n σ b f0 h0 q σ ∧ σ 60 32 = (P.length : Int) ∧ σ 60 30 = (cnO P : Int) ∧ pq P (σ 79)
theorem pq_top {p : Int} {Q : List Int} {f : Int → Int} (h : pq (p :: Q) f) : f (Q.length : Int) = p := by
  refine h Q.length p ?_
  rw [List.reverse_cons, List.getElem?_append_right (by simp)]
  simp
theorem pq_pop {p : Int} {Q : List Int} {f : Int → Int} (h : pq (p :: Q) f) : pq Q f := by
  intro i x hx
  refine h i x ?_
  have hi : i < Q.reverse.length := by
    apply Classical.byContradiction
    intro w
    rw [List.getElem?_eq_none (by omega)] at hx
    cases hx
  rw [List.reverse_cons, List.getElem?_append_left hi]
  exact hx
theorem pq_push {p : Int} {Q : List Int} {f f2 : Int → Int} (h : pq Q f) (h1 : f2 (Q.length : Int) = p) (h2 : ∀ i : Int, i < (Q.length : Int) → f2 i = f i) : pq (p :: Q) f2 := by
  intro i x hx
  rw [List.reverse_cons] at hx
  by_cases w : i < Q.reverse.length
  · rw [List.getElem?_append_left w] at hx
    rw [List.length_reverse] at w
    rw [h2 _ (by omega)]
    exact h i x hx
  · rw [List.length_reverse] at w
    rw [List.getElem?_append_right (by rw [List.length_reverse]; omega), List.length_reverse] at hx
    have hi : i - Q.length = 0 := by
      apply Classical.byContradiction
      intro w2
      rw [List.getElem?_eq_none (by simp; omega)] at hx
      cases hx
    rw [hi] at hx
    cases hx
    rw [show i = Q.length by omega]
    exact h1
section RQ5
variable {T : Nat → Int} {n : Nat} {μb : ot_M} {b : Nat} {f0 h0 : Int → Int} {q : Nat × CL} {P : List Int} {σ σ2 : ot_M}
theorem qS_same {μ1 : ot_M} (h : qS T n μ1 b f0 h0 q σ) (h60 : ∀ i, i = 18 ∨ i = 19 ∨ i = 20 ∨ i = 21 ∨ i = 29 → σ2 60 i = σ 60 i) (h77 : σ2 77 = σ 77) (h78 : σ2 78 = σ 78) : qS T n σ2 b f0 h0 q σ2 := by
  obtain ⟨_, a3, a4, a5, a6, a7, a8, a9⟩ := h
  refine ⟨⟨fun _ _ _ _ => rfl, fun _ _ _ _ _ _ _ _ => rfl⟩, ?_⟩
  rw [h60 18 (by omega), h60 19 (by omega), h60 20 (by omega), h60 21 (by omega), h60 29 (by omega), h77, h78]
  exact ⟨a3, a4, a5, a6, a7, a8, a9⟩
theorem qT_of {q2 : Nat × CL} (h : qT T n μb b f0 h0 q P σ) (h2 : qS T n σ b f0 h0 q2 σ2) : qT T n μb b f0 h0 q2 P σ2 := by
  obtain ⟨⟨a1, a2⟩, a3, a4, a5, a6⟩ := h
  have b1 := h2.1.1
  have b2 := h2.1.2
  refine ⟨⟨fun k w1 w2 w3 w4 => by rw [b1 k w1 w2 w3]; exact a1 k w1 w2 w3 w4, fun i w1 w2 w3 w4 w5 w6 w7 w8 w9 => by rw [b2 i w1 w2 w3 w4 w5 w8 w9]; exact a2 i w1 w2 w3 w4 w5 w6 w7 w8 w9⟩, qS_same h2 (fun _ _ => rfl) rfl rfl, ?_, ?_, ?_⟩
  · rw [b2 32 (by decide) (by decide) (by decide) (by decide) (by decide) (by decide) (by decide)]; exact a4
  · rw [b2 30 (by decide) (by decide) (by decide) (by decide) (by decide) (by decide) (by decide)]; exact a5
  · rw [b1 79 (by decide) (by decide) (by decide)]; exact a6
theorem qG_of (hg : qG T n μb) (h : qT T n μb b f0 h0 q P σ) : qG T n σ := by
  obtain ⟨g1, g2, g3, g4, g5⟩ := hg
  obtain ⟨⟨a1, a2⟩, _⟩ := h
  refine ⟨?_, g2, g3, ?_, ?_⟩
  · rw [a1 72 (by decide) (by decide) (by decide) (by decide)]; exact g1
  · rw [a2 17 (by decide) (by decide) (by decide) (by decide) (by decide) (by decide) (by decide) (by decide) (by decide)]; exact g4
  · rw [a1 73 (by decide) (by decide) (by decide) (by decide)]; exact g5
/-- one pending less, and it is told -/
theorem qT_settle {p : Int} {Q : List Int} (h : qT T n μb b f0 h0 q (p :: Q) σ) {o : Int} (ho : (o = σ 60 30 ∧ p ≠ 9 ∧ p ≠ 12) ∨ (o = σ 60 30 - 1 ∧ p = 9)) (e60 : ∀ i, i ≠ 29 → i ≠ 30 → i ≠ 32 → σ2 60 i = σ 60 i) (e29 : σ2 60 29 = σ 60 29 + 1) (e30 : σ2 60 30 = o) (e32 : σ2 60 32 = σ 60 32 - 1) (ek : ∀ k, k ≠ 60 → k ≠ 77 → k ≠ 78 → σ2 k = σ k) (e77 : σ2 77 = up1 (σ 77) (400 + σ 60 29) p) (e78 : σ2 78 = up1 (σ 78) (400 + σ 60 29) 0) : qT T n μb b f0 h0 (q.1, q.2 ++ [(p, 0)]) Q σ2 := by
  obtain ⟨⟨a1, a2⟩, a3, a4, a5, a6⟩ := h
  have hq := qS_emit (x := (p, 0)) a3 rfl
  refine ⟨⟨fun k w1 w2 w3 w4 => by rw [ek k w1 w2 w3]; exact a1 k w1 w2 w3 w4, fun i w1 w2 w3 w4 w5 w6 w7 w8 w9 => by rw [e60 i w5 w6 w7]; exact a2 i w1 w2 w3 w4 w5 w6 w7 w8 w9⟩, ?_, ?_, ?_, ?_⟩
  · refine qS_same hq (fun i hi => ?_) ?_ ?_
    · by_cases w : i = 29
      · subst w; rw [e29]; simp [ot_up]
      · rw [e60 i w (by omega) (by omega)]; simp [ot_up, w]
    · rw [e77]; funext i; simp [ot_up, up1]
    · rw [e78]; funext i; simp [ot_up, up1]
  · rw [e32, a4]; show ((Q.length + 1 : Nat) : Int) - 1 = _; omega
  · rw [e30]
    replace a5 : σ 60 30 = ((cnO Q + (if p = 9 ∨ p = 12 then 1 else 0) : Nat) : Int) := a5
    rcases ho with ⟨c1, c2, c3⟩ | ⟨c1, c2⟩
    · rw [if_neg (by omega)] at a5; omega
    · rw [if_pos (Or.inl c2)] at a5; omega
  · rw [ek 79 (by decide) (by decide) (by decide)]; exact pq_pop a6
end RQ5
theorem stl_y {w : Int} {Q : List Int} {cs : CL} : stl w (w :: Q) cs = stl w Q (cs ++ [(w, 0)]) := by
  show (if w = w then _ else _) = _
  rw [if_pos rfl]
theorem stl_n {w p : Int} {Q : List Int} {cs : CL} (h : p ≠ w) : stl w (p :: Q) cs = (p :: Q, cs) := by
  show (if p = w then _ else _) = _
  rw [if_neg h]
set_option maxRecDepth 100000 in
set_option maxHeartbeats 1000000 in
theorem q_settles (l : Launch) (g : ot_G) (ln : Nat) (ext : ot_L) (μ : ot_M) (w : Int) (hw : w = 9 ∨ w = 10 ∨ w = 11) (T : Nat → Int) (n : Nat) (μb : ot_M) (b : Nat) (f0 h0 : Int → Int) (q : Nat × CL) (P : List Int) (hs : qT T n μb b f0 h0 q P μ) (hroom : b + q.2.length + nbP P ≤ 400) (h40 : P.length ≤ 40) (hP9 : ∀ p ∈ P, 9 ≤ p ∧ p ≤ 12)  : ot_C l g yX10_settles cX10_settles 2 none 1 0 0 [.inr 60, .inl w] (LL ln ext) μ (ot_pv (fun L2 μ2 => L2 = LL ln ext ∧ qT T n μb b f0 h0 (q.1, (stl w P q.2).2) (stl w P q.2).1 μ2)) := by
  refine ot_enter (by decide) (Nat.le_of_ble_eq_true rfl) ?_
  intro p e s m args below meth c X hr
  refine tt_loc [(0, _), (1, _)] ⟨rfl, rfl, trivial⟩ ?_
  refine tt_loop (α := ot_M × List Int × CL) (fun ((σ, P1, cs1)) => P1.length) (fun ((σ, P1, cs1)) => qT T n μb b f0 h0 (q.1, cs1) P1 σ ∧ stl w P1 cs1 = stl w P q.2 ∧ b + cs1.length + nbP P1 ≤ 400 ∧ P1.length ≤ 40 ∧ ∀ p ∈ P1, 9 ≤ p ∧ p ≤ 12) (fun ((σ, P1, cs1)) => σ) (fun ((σ, P1, cs1)) => [(0, .inr 60), (1, .inl w)]) (μ, P, q.2) ⟨hs, rfl, hroom, h40, hP9⟩ ?_
  intro a hI ih
  obtain ⟨σ, P1, cs1⟩ := a
  try dsimp only at hI ih ⊢
  replace hI : qT T n μb b f0 h0 (q.1, cs1) P1 σ ∧ stl w P1 cs1 = stl w P q.2 ∧ b + cs1.length + nbP P1 ≤ 400 ∧ P1.length ≤ 40 ∧ ∀ p ∈ P1, 9 ≤ p ∧ p ≤ 12 := hI
  have h32 := hI.1.2.2.1
  have h29 := hI.1.2.1.2.2.2.2.2.1
  have hl1 := hI.2.2.2.1
  refine tt_aload_n X rfl dX10_settles_0 ?_
  refine tt_geti X fX10_196 (k_60 _ _) (by decide) (Or.inl rfl) dX10_settles_1 ?_
  try simp (disch := decide) only [ot_rd, ot_rs, ot_rf, ot_ucd, ot_ucs]
  refine tt_if_le X 57 (by omega) dX10_settles_4 (by decide) (fun b4 => ?_) (fun b4 => ?_)
  · refine tt_vret X ⟨hr.1, hr.2.1⟩ (by decide) (by decide) dX10_settles_57 ?_
    refine ⟨rfl, ?_⟩
    rw [← hI.2.1]
    first
      | (cases P1 with
         | nil => exact hI.1
         | cons p0 Q => simp at h32; omega)
      | (rw [stl_n (by omega)]
         exact hI.1)
  · refine tt_aload_n X rfl dX10_settles_7 ?_
    refine tt_getr X fX10_68 (k_60 _ _) (by decide) ⟨nofun, nofun⟩ rfl dX10_settles_8 ?_
    refine tt_aload_n X rfl dX10_settles_11 ?_
    refine tt_geti X fX10_196 (k_60 _ _) (by decide) (Or.inl rfl) dX10_settles_12 ?_
    try simp (disch := decide) only [ot_rd, ot_rs, ot_rf, ot_ucd, ot_ucs]
    refine tt_iconst X dX10_settles_15 ?_
    refine tt_isub X dX10_settles_16 ?_
    refine tt_iaload X (k_79 _ _) (by rw [h32]; omega) dX10_settles_17 ?_
    try simp (disch := decide) only [ot_rd, ot_rs, ot_rf, ot_ucd, ot_ucs]
    obtain ⟨p0, Q, hPQ⟩ : ∃ p0 Q, P1 = p0 :: Q := by
      cases P1 with
      | nil => simp at h32; omega
      | cons p0 Q => exact ⟨p0, Q, rfl⟩
    subst hPQ
    have htop := pq_top hI.1.2.2.2.2
    have hl2 : (p0 :: Q).length = Q.length + 1 := rfl
    refine tt_top (y := p0) (by rw [h32, hl2, show ((Q.length + 1 : Nat) : Int) - 1 = (Q.length : Int) by omega]; exact htop) ?_
    refine tt_iload_n X rfl dX10_settles_18 ?_
    refine tt_icmp_ne X 57 (by have := hI.2.2.2.2 p0 List.mem_cons_self; omega) dX10_settles_19 (by decide) (fun b19 => ?_) (fun b19 => ?_)
    · refine tt_vret X ⟨hr.1, hr.2.1⟩ (by decide) (by decide) dX10_settles_57 ?_
      refine ⟨rfl, ?_⟩
      rw [← hI.2.1]
      first
        | (cases P1 with
           | nil => exact hI.1
           | cons p0 Q => simp at h32; omega)
        | (rw [stl_n (by omega)]
           exact hI.1)
    · have hpw : w = p0 := by omega
      have hQ9 : ∀ p ∈ Q, 9 ≤ p ∧ p ≤ 12 := fun p hp => hI.2.2.2.2 p (List.mem_cons_of_mem _ hp)
      subst hpw
      have hnb : nbP (w :: Q) = nbP Q + 1 := by show nbP Q + (if w = 12 then 0 else 1) = _; rw [if_neg (by omega)]
      have hrm : b + (cs1 ++ [(w, 0)]).length + nbP Q ≤ 400 := by
        have h1 := hI.2.2.1
        rw [hnb] at h1
        rw [List.length_append]
        show b + (cs1.length + 1) + nbP Q ≤ 400
        omega
      have hl40 : Q.length ≤ 40 := by omega
      have hc4 : b + cs1.length < 400 := by
        have h1 := hI.2.2.1
        rw [hnb] at h1
        omega
      dsimp only at h29
      refine tt_aload_n X rfl dX10_settles_22 ?_
      refine tt_aload_n X rfl dX10_settles_23 ?_
      refine tt_geti X fX10_196 (k_60 _ _) (by decide) (Or.inl rfl) dX10_settles_24 ?_
      try simp (disch := decide) only [ot_rd, ot_rs, ot_rf, ot_ucd, ot_ucs]
      refine tt_iconst X dX10_settles_27 ?_
      refine tt_isub X dX10_settles_28 ?_
      refine tt_puti X fX10_196 kc_10 (k_60 _ _) (by decide) (fun q hq => by cases hq; rfl) rfl dX10_settles_29 ?_
      refine tt_aload_n X rfl dX10_settles_32 ?_
      refine tt_iload_n X rfl dX10_settles_33 ?_
      refine tt_iconst X dX10_settles_34 ?_
      refine tt_vv X rfl mX10_176 (q_emits l g ln ext _ _ _ (by simp (disch := decide) only [ot_rd, ot_rs, ot_rf, ot_ucd, ot_ucs, ot_rdf]; omega)) (k_60 _ _) ⟨_, rfl, rfl⟩ rfl rfl (Nat.le_of_ble_eq_true rfl) (by decide) (by decide) (by decide) dX10_settles_35 (fun L35 μ35 hp => ?_)
      obtain ⟨rfl, e35⟩ := hp
      subst e35
      simp (disch := decide) only [ot_rd, ot_rs, ot_rf, ot_ucd, ot_ucs, ot_rdf]
      refine tt_iload_n X rfl dX10_settles_38 ?_
      refine tt_bipush X (by decide) dX10_settles_39 ?_
      refine tt_icmp_ne X 0 (by first | omega | (simp (disch := decide) only [ot_rd, ot_rs, ot_rf, ot_ucd, ot_ucs]; omega)) dX10_settles_41 (by decide) (fun b41 => ?_) (fun b41 => ?_)
      · refine tt_loc [(0, _), (1, _)] ⟨rfl, rfl, trivial⟩ ?_
        refine tt_gen (fun σ2 e2 => ?_)
        first
          | (have hq2 := qT_settle (σ2 := σ2) hI.1 (o := σ 60 30) (Or.inl ⟨rfl, by omega, by omega⟩) (by intro i a1 a2 a3; rw [e2]; simp [ot_up, a1, a2, a3]) (by rw [e2]; simp [ot_up]) (by rw [e2]; simp [ot_up]) (by rw [e2]; simp [ot_up]) (by intro k a1 a2 a3; rw [e2]; funext i; simp [ot_up, a1, a2, a3]) (by rw [e2]; funext i; simp [ot_up, up1]) (by rw [e2]; funext i; simp [ot_up, up1])
             exact ih (σ2, Q, cs1 ++ [(w, 0)]) ⟨hq2, by rw [← hI.2.1, stl_y], hrm, hl40, hQ9⟩ (by show Q.length < Q.length + 1; omega))
          | (have hq2 := qT_settle (σ2 := σ2) hI.1 (o := σ 60 30 - 1) (Or.inr ⟨rfl, by omega⟩) (by intro i a1 a2 a3; rw [e2]; simp [ot_up, a1, a2, a3]) (by rw [e2]; simp [ot_up]) (by rw [e2]; simp [ot_up]) (by rw [e2]; simp [ot_up]) (by intro k a1 a2 a3; rw [e2]; funext i; simp [ot_up, a1, a2, a3]) (by rw [e2]; funext i; simp [ot_up, up1]) (by rw [e2]; funext i; simp [ot_up, up1])
             exact ih (σ2, Q, cs1 ++ [(w, 0)]) ⟨hq2, by rw [← hI.2.1, stl_y], hrm, hl40, hQ9⟩ (by show Q.length < Q.length + 1; omega))
      · refine tt_aload_n X rfl dX10_settles_44 ?_
        refine tt_aload_n X rfl dX10_settles_45 ?_
        refine tt_geti X fX10_199 (k_60 _ _) (by decide) (Or.inl rfl) dX10_settles_46 ?_
        try simp (disch := decide) only [ot_rd, ot_rs, ot_rf, ot_ucd, ot_ucs]
        refine tt_iconst X dX10_settles_49 ?_
        refine tt_isub X dX10_settles_50 ?_
        refine tt_puti X fX10_199 kc_10 (k_60 _ _) (by decide) (fun q hq => by cases hq; rfl) rfl dX10_settles_51 ?_
        refine tt_goto X 0 dX10_settles_54 (by decide) ?_
        refine tt_loc [(0, _), (1, _)] ⟨rfl, rfl, trivial⟩ ?_
        refine tt_gen (fun σ2 e2 => ?_)
        first
          | (have hq2 := qT_settle (σ2 := σ2) hI.1 (o := σ 60 30) (Or.inl ⟨rfl, by omega, by omega⟩) (by intro i a1 a2 a3; rw [e2]; simp [ot_up, a1, a2, a3]) (by rw [e2]; simp [ot_up]) (by rw [e2]; simp [ot_up]) (by rw [e2]; simp [ot_up]) (by intro k a1 a2 a3; rw [e2]; funext i; simp [ot_up, a1, a2, a3]) (by rw [e2]; funext i; simp [ot_up, up1]) (by rw [e2]; funext i; simp [ot_up, up1])
             exact ih (σ2, Q, cs1 ++ [(w, 0)]) ⟨hq2, by rw [← hI.2.1, stl_y], hrm, hl40, hQ9⟩ (by show Q.length < Q.length + 1; omega))
          | (have hq2 := qT_settle (σ2 := σ2) hI.1 (o := σ 60 30 - 1) (Or.inr ⟨rfl, by omega⟩) (by intro i a1 a2 a3; rw [e2]; simp [ot_up, a1, a2, a3]) (by rw [e2]; simp [ot_up]) (by rw [e2]; simp [ot_up]) (by rw [e2]; simp [ot_up]) (by intro k a1 a2 a3; rw [e2]; funext i; simp [ot_up, a1, a2, a3]) (by rw [e2]; funext i; simp [ot_up, up1]) (by rw [e2]; funext i; simp [ot_up, up1])
             exact ih (σ2, Q, cs1 ++ [(w, 0)]) ⟨hq2, by rw [← hI.2.1, stl_y], hrm, hl40, hQ9⟩ (by show Q.length < Q.length + 1; omega))

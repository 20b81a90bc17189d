theorem stl_cnO {w : Int} : ∀ (P : List Int) (cs : CL), cnO (stl w P cs).1 ≤ cnO P
  | [], cs => Nat.le_refl _
  | p :: P, cs => by
    by_cases e : p = w
    · subst e
      rw [stl_y]
      have := stl_cnO (w := p) P (cs ++ [(p, 0)])
      show _ ≤ cnO P + _
      omega
    · rw [stl_n e]; exact Nat.le_refl _
theorem cmR_last {tk vl : Nat → Int} {j : Nat} {cs : CL} {u : Nat × CL} (h : cmR tk vl j cs (.inr u)) : tk (u.1 - 1) ≠ 21 := by
  obtain ⟨r1, h1, h2⟩ := h
  cases r1 with
  | inl f => cases h2
  | inr q =>
    dsimp only at h2
    by_cases w : tk q.1 = 60 ∨ tk q.1 = 61 ∨ tk q.1 = 62
    · rw [if_pos w] at h2
      obtain ⟨r2, h3, h4⟩ := h2
      cases r2 with
      | inl f => cases h4
      | inr v =>
        cases h4
        have h5 := su_last h3
        exact h5
    · rw [if_neg w] at h2; cases h2
section RQ7
variable {T : Nat → Int} {n : Nat} {μb : ot_M} {b : Nat} {f0 h0 : Int → Int} {q q1 : Nat × CL} {P : List Int} {σ σ2 : ot_M}
theorem anI_push {p : Int} (h : anI T n μb b f0 h0 q σ true q1 P) (hp : (tkT T n q1.1 = 5 ∧ p = 9) ∨ (tkT T n q1.1 = 40 ∧ p = 12)) (h8 : cnO P ≠ 8) (h2 : qT T n μb b f0 h0 (q1.1 + 1, q1.2) (p :: P) σ2) : anI T n μb b f0 h0 q σ2 true (q1.1 + 1, q1.2) (p :: P) := by
  obtain ⟨a1, a2, a3, a4, a5, a6, a7⟩ := h
  have hb : bst (tkT T n) (vlT T n) (true, q1.1, P, q1.2) (.inr (true, q1.1 + 1, p :: P, q1.2)) := by
    unfold bst
    dsimp only
    rw [if_pos rfl, if_pos (by omega), if_neg h8]
    rcases hp with ⟨c1, c2⟩ | ⟨c1, c2⟩
    · rw [if_pos c1, c2]
    · rw [if_neg (by omega), c2]
  refine ⟨h2, fun x => (a2 x).trans (bR_step hb x), ⟨a3, by omega, fun e => by omega, fun e => by omega⟩, ?_, (fun e => by cases e), ?_, ?_⟩
  · show cnO P + (if p = 9 ∨ p = 12 then 1 else 0) ≤ 8
    split <;> omega
  · show b + q1.2.length + (nbP P + (if p = 12 then 0 else 1)) ≤ q1.1 + 1
    split <;> omega
  · show tkT T n (q1.1 + 1 - 1) ≠ 21
    rw [Nat.add_sub_cancel]
    omega
theorem anI_cmp {u : Nat × CL} (h : anI T n μb b f0 h0 q σ true q1 P) (h5 : tkT T n q1.1 ≠ 5) (h40 : tkT T n q1.1 ≠ 40) (hc : cmR (tkT T n) (vlT T n) q1.1 q1.2 (.inr u)) (hn : u.2.length + q1.1 = q1.2.length + u.1) (h2 : qT T n μb b f0 h0 (u.1, (stl 9 P u.2).2) (stl 9 P u.2).1 σ2) : anI T n μb b f0 h0 q σ2 false (u.1, (stl 9 P u.2).2) (stl 9 P u.2).1 := by
  obtain ⟨a1, a2, a3, a4, a5, a6, a7⟩ := h
  have hb : bst (tkT T n) (vlT T n) (true, q1.1, P, q1.2) (.inr (dCn u.1 P u.2)) := by
    unfold bst
    dsimp only
    rw [if_pos rfl, if_neg (by omega)]
    exact ⟨.inr u, hc, rfl⟩
  have hs := stl_ok (w := 9) (by decide) P u.2 a3
  have hcO := stl_cnO (w := 9) P u.2
  refine ⟨h2, fun x => (a2 x).trans (bR_step hb x), hs.1, by omega, fun _ => hs.2.1, ?_, (by have h5 := cmR_last hc; exact h5)⟩
  show b + (stl 9 P u.2).2.length + nbP (stl 9 P u.2).1 ≤ u.1
  omega
theorem anI_and (h : anI T n μb b f0 h0 q σ false q1 P) (ht : tkT T n q1.1 = 4) (h2 : qT T n μb b f0 h0 (q1.1 + 1, (stl 10 P q1.2).2) (10 :: (stl 10 P q1.2).1) σ2) : anI T n μb b f0 h0 q σ2 true (q1.1 + 1, (stl 10 P q1.2).2) (10 :: (stl 10 P q1.2).1) := by
  obtain ⟨a1, a2, a3, a4, a5, a6, a7⟩ := h
  have hb : bst (tkT T n) (vlT T n) (false, q1.1, P, q1.2) (.inr (true, q1.1 + 1, 10 :: (stl 10 P q1.2).1, (stl 10 P q1.2).2)) := by
    unfold bst
    dsimp only
    rw [if_neg (by decide), if_pos ht]
  have hs := stl_ok (w := 10) (by decide) P q1.2 a3
  have htp := stl10_top P q1.2 a3 (a5 rfl)
  have hcO := stl_cnO (w := 10) P q1.2
  refine ⟨h2, fun x => (a2 x).trans (bR_step hb x), ⟨hs.1, by omega, fun _ t Q e => ?_, fun e => by omega⟩, ?_, (fun e => by cases e), ?_, ?_⟩
  · have := htp t Q e; omega
  · show cnO (stl 10 P q1.2).1 + (if (10 : Int) = 9 ∨ (10 : Int) = 12 then 1 else 0) ≤ 8
    rw [if_neg (by decide)]; omega
  · show b + (stl 10 P q1.2).2.length + (nbP (stl 10 P q1.2).1 + (if (10 : Int) = 12 then 0 else 1)) ≤ q1.1 + 1
    rw [if_neg (by decide)]; omega
  · show tkT T n (q1.1 + 1 - 1) ≠ 21
    rw [Nat.add_sub_cancel]
    omega
theorem sAO_ok (a3 : okP P) (cs : CL) : okP (sAO P cs).1 ∧ (sAO P cs).2.length + nbP (sAO P cs).1 = cs.length + nbP P ∧ cnO (sAO P cs).1 ≤ cnO P ∧ cnB (sAO P cs).1 = cnB P := by
  have h1 := stl_ok (w := 10) (by decide) P cs a3
  have h2 := stl_ok (w := 11) (by decide) (stl 10 P cs).1 (stl 10 P cs).2 h1.1
  have h3 := stl_cnO (w := 10) P cs
  have h4 := stl_cnO (w := 11) (stl 10 P cs).1 (stl 10 P cs).2
  have h5 := stl_cnB (w := 10) (by decide) P cs
  have h6 := stl_cnB (w := 11) (by decide) (stl 10 P cs).1 (stl 10 P cs).2
  unfold sAO
  exact ⟨h2.1, by omega, by omega, by omega⟩
theorem anI_or (h : anI T n μb b f0 h0 q σ false q1 P) (ht : tkT T n q1.1 = 3) (h2 : qT T n μb b f0 h0 (q1.1 + 1, (sAO P q1.2).2) (11 :: (sAO P q1.2).1) σ2) : anI T n μb b f0 h0 q σ2 true (q1.1 + 1, (sAO P q1.2).2) (11 :: (sAO P q1.2).1) := by
  obtain ⟨a1, a2, a3, a4, a5, a6, a7⟩ := h
  have hb : bst (tkT T n) (vlT T n) (false, q1.1, P, q1.2) (.inr (true, q1.1 + 1, 11 :: (sAO P q1.2).1, (sAO P q1.2).2)) := by
    unfold bst
    dsimp only
    rw [if_neg (by decide), if_neg (by omega), if_pos ht]
  have hs := sAO_ok a3 q1.2
  have htp := sAO_top (cs := q1.2) a3 (a5 rfl)
  refine ⟨h2, fun x => (a2 x).trans (bR_step hb x), ⟨hs.1, by omega, fun e => by omega, fun _ t Q e => htp t Q e⟩, ?_, (fun e => by cases e), ?_, ?_⟩
  · show cnO (sAO P q1.2).1 + (if (11 : Int) = 9 ∨ (11 : Int) = 12 then 1 else 0) ≤ 8
    rw [if_neg (by decide)]; omega
  · show b + (sAO P q1.2).2.length + (nbP (sAO P q1.2).1 + (if (11 : Int) = 12 then 0 else 1)) ≤ q1.1 + 1
    rw [if_neg (by decide)]; omega
  · show tkT T n (q1.1 + 1 - 1) ≠ 21
    rw [Nat.add_sub_cancel]
    omega
theorem anI_close {Q : List Int} (h : anI T n μb b f0 h0 q σ false q1 P) (ht : tkT T n q1.1 = 41) (hQ : (sAO P q1.2).1 = 12 :: Q) (h2 : qT T n μb b f0 h0 (q1.1 + 1, (stl 9 Q (sAO P q1.2).2).2) (stl 9 Q (sAO P q1.2).2).1 σ2) : anI T n μb b f0 h0 q σ2 false (q1.1 + 1, (stl 9 Q (sAO P q1.2).2).2) (stl 9 Q (sAO P q1.2).2).1 := by
  obtain ⟨a1, a2, a3, a4, a5, a6, a7⟩ := h
  have hs := sAO_ok a3 q1.2
  rw [hQ] at hs
  have hcb : cnB (12 :: Q) ≠ 0 := by show cnB Q + (if (12 : Int) = 12 then 1 else 0) ≠ 0; rw [if_pos rfl]; omega
  have hb : bst (tkT T n) (vlT T n) (false, q1.1, P, q1.2) (.inr (dCn (q1.1 + 1) Q (sAO P q1.2).2)) := by
    unfold bst
    dsimp only
    rw [if_neg (by decide), if_neg (by omega), if_neg (by omega), hQ, if_neg hcb, if_pos ht]
    rfl
  have hs9 := stl_ok (w := 9) (by decide) Q (sAO P q1.2).2 hs.1.1
  have hcO := stl_cnO (w := 9) Q (sAO P q1.2).2
  have hc1 : cnO (12 :: Q) = cnO Q + 1 := by show cnO Q + (if (12 : Int) = 9 ∨ (12 : Int) = 12 then 1 else 0) = _; rw [if_pos (by decide)]
  have hn1 : nbP (12 :: Q) = nbP Q := by show nbP Q + (if (12 : Int) = 12 then 0 else 1) = _; rw [if_pos rfl]; rfl
  refine ⟨h2, fun x => (a2 x).trans (bR_step hb x), hs9.1, by omega, fun _ => hs9.2.1, ?_, ?_⟩
  · show b + (stl 9 Q (sAO P q1.2).2).2.length + nbP (stl 9 Q (sAO P q1.2).2).1 ≤ q1.1 + 1
    omega
  · show tkT T n (q1.1 + 1 - 1) ≠ 21
    rw [Nat.add_sub_cancel]
    omega
end RQ7

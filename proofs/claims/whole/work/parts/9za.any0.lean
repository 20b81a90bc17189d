def qF2 (T : Nat → Int) (n : Nat) (μb : ot_M) (f0 h0 : Int → Int) (f : Int × Nat) (σ : ot_M) : Prop := qB2 μb σ ∧ σ 60 33 = f.1 ∧ σ 60 34 = (psN T n f.2 : Int) ∧ (-1 ≤ σ 60 21 ∧ σ 60 21 ≤ 99999) ∧ ∀ i : Int, i < 400 → σ 77 i = f0 i ∧ σ 78 i = h0 i
section RQ6
variable {T : Nat → Int} {n : Nat} {μb : ot_M} {b : Nat} {f0 h0 : Int → Int} {q : Nat × CL} {P : List Int} {σ σ2 : ot_M}
theorem qF2_of {f : Int × Nat} (h : qT T n μb b f0 h0 q P σ) (h2 : qF T n σ f0 h0 f σ2) : qF2 T n μb f0 h0 f σ2 := by
  obtain ⟨⟨a1, a2⟩, _⟩ := h
  obtain ⟨⟨b1, b2⟩, b3⟩ := h2
  exact ⟨⟨fun k w1 w2 w3 w4 => by rw [b1 k w1 w2 w3]; exact a1 k w1 w2 w3 w4, fun i w1 w2 w3 w4 w5 w6 w7 w8 w9 => by rw [b2 i w1 w2 w3 w4 w5 w8 w9]; exact a2 i w1 w2 w3 w4 w5 w6 w7 w8 w9⟩, b3⟩
theorem qT_wait {p : Int} (h : qT T n μb b f0 h0 q P σ) (e60 : ∀ i, i ≠ 30 → i ≠ 32 → σ2 60 i = σ 60 i) (e30 : σ2 60 30 = (cnO (p :: P) : Int)) (e32 : σ2 60 32 = σ 60 32 + 1) (ek : ∀ k, k ≠ 60 → k ≠ 79 → σ2 k = σ k) (e79 : σ2 79 = up1 (σ 79) (σ 60 32) p) : qT T n μb b f0 h0 q (p :: P) σ2 := by
  obtain ⟨⟨a1, a2⟩, a3, a4, a5, a6⟩ := h
  refine ⟨⟨fun k w1 w2 w3 w4 => by rw [ek k w1 w4]; exact a1 k w1 w2 w3 w4, fun i w1 w2 w3 w4 w5 w6 w7 w8 w9 => by rw [e60 i w6 w7]; exact a2 i w1 w2 w3 w4 w5 w6 w7 w8 w9⟩, ?_, ?_, e30, ?_⟩
  · exact qS_same a3 (fun i hi => e60 i (by omega) (by omega)) (ek 77 (by decide) (by decide)) (ek 78 (by decide) (by decide))
  · rw [e32, a4]; show _ = ((P.length + 1 : Nat) : Int); omega
  · rw [e79, a4]
    exact pq_push a6 up1_s (fun i hi => up1_n (by omega))
theorem qT_popB {Q : List Int} (h : qT T n μb b f0 h0 q (12 :: Q) σ) (e60 : ∀ i, i ≠ 30 → i ≠ 32 → σ2 60 i = σ 60 i) (e30 : σ2 60 30 = σ 60 30 - 1) (e32 : σ2 60 32 = σ 60 32 - 1) (ek : ∀ k, k ≠ 60 → σ2 k = σ k) : qT T n μb b f0 h0 q Q σ2 := by
  obtain ⟨⟨a1, a2⟩, a3, a4, a5, a6⟩ := h
  refine ⟨⟨fun k w1 w2 w3 w4 => by rw [ek k w1]; exact a1 k w1 w2 w3 w4, fun i w1 w2 w3 w4 w5 w6 w7 w8 w9 => by rw [e60 i w6 w7]; exact a2 i w1 w2 w3 w4 w5 w6 w7 w8 w9⟩, ?_, ?_, ?_, ?_⟩
  · exact qS_same a3 (fun i hi => e60 i (by omega) (by omega)) (ek 77 (by decide)) (ek 78 (by decide))
  · rw [e32, a4]; show ((Q.length + 1 : Nat) : Int) - 1 = _; omega
  · rw [e30]
    replace a5 : σ 60 30 = ((cnO Q + (if (12 : Int) = 9 ∨ (12 : Int) = 12 then 1 else 0) : Nat) : Int) := a5
    rw [if_pos (by decide)] at a5
    omega
  · rw [ek 79 (by decide)]; exact pq_pop a6
end RQ6
def anI (T : Nat → Int) (n : Nat) (μb : ot_M) (b : Nat) (f0 h0 : Int → Int) (q : Nat × CL) (σ : ot_M) (due : Bool) (q1 : Nat × CL) (P : List Int) : Prop := qT T n μb b f0 h0 q1 P σ ∧ (∀ x, bR (tkT T n) (vlT T n) (true, q.1, [], q.2) x ↔ bR (tkT T n) (vlT T n) (due, q1.1, P, q1.2) x) ∧ okP P ∧ cnO P ≤ 8 ∧ (due = false → ∀ t Q, P = t :: Q → t ≠ 9) ∧ b + q1.2.length + nbP P ≤ q1.1 ∧ tkT T n (q1.1 - 1) ≠ 21

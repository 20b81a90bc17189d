theorem sR_ge {tk vl : Nat → Int} : ∀ n s r, itR (fun s o => o = sstR tk vl s) n s r → ∀ u, r = .inr u → s.1 ≤ u.1
  | 0, _, _, h, _, _ => absurd h id
  | n + 1, s, r, h, u, hu => by
    rcases h with h | ⟨s2, h, h2⟩
    · subst hu
      unfold sstR at h
      by_cases w1 : tk s.1 = 42
      · rw [if_pos w1] at h
        cases e : unR tk vl (s.1 + 1) s.2.1 <;> rw [e] at h <;> cases h
      · rw [if_neg w1] at h
        by_cases w2 : tk s.1 = 47
        · rw [if_pos w2] at h
          split at h
          · cases h
          · split at h <;> cases h
        · rw [if_neg w2] at h
          by_cases w3 : tk s.1 = 43 ∨ tk s.1 = 45
          · rw [if_pos w3] at h
            cases e : unR tk vl (s.1 + 1) (s.2.1 ++ wlR s.2.2) <;> rw [e] at h <;> cases h
          · rw [if_neg w3] at h
            cases h
            exact Nat.le_refl _
    · have ih := sR_ge n s2 r h2 u hu
      have key : s.1 ≤ s2.1 := by
        unfold sstR at h
        by_cases w1 : tk s.1 = 42
        · rw [if_pos w1] at h
          cases e : unR tk vl (s.1 + 1) s.2.1 with
          | inl f => rw [e] at h; cases h
          | inr q => rw [e] at h; cases h; have := (unR_len e).1; show s.1 ≤ q.1; omega
        · rw [if_neg w1] at h
          by_cases w2 : tk s.1 = 47
          · rw [if_pos w2] at h
            split at h
            · cases h
            · split at h
              · cases h
              · cases h; show s.1 ≤ s.1 + 2; omega
          · rw [if_neg w2] at h
            by_cases w3 : tk s.1 = 43 ∨ tk s.1 = 45
            · rw [if_pos w3] at h
              cases e : unR tk vl (s.1 + 1) (s.2.1 ++ wlR s.2.2) with
              | inl f => rw [e] at h; cases h
              | inr q => rw [e] at h; cases h; have := (unR_len e).1; show s.1 ≤ q.1; omega
            · rw [if_neg w3] at h; cases h
      omega
theorem suR_ge {tk vl : Nat → Int} {j : Nat} {cs : CL} {u : Nat × CL} (h : suR tk vl j cs (.inr u)) : j ≤ u.1 := by
  unfold suR at h
  cases e : unR tk vl j cs with
  | inl f => rw [e] at h; cases h
  | inr q =>
    rw [e] at h
    obtain ⟨n, hn⟩ := h
    have h1 := sR_ge n _ _ hn u rfl
    have h2 := (unR_len e).1
    replace h1 : q.1 ≤ u.1 := h1
    omega
theorem cmR_ge {tk vl : Nat → Int} {j : Nat} {cs : CL} {u : Nat × CL} (h : cmR tk vl j cs (.inr u)) : j ≤ u.1 := by
  obtain ⟨r1, h1, h2⟩ := h
  cases r1 with
  | inl f => cases h2
  | inr q =>
    dsimp only at h2
    by_cases w : tk q.1 = 60 ∨ tk q.1 = 61 ∨ tk q.1 = 62
    · rw [if_pos w] at h2
      obtain ⟨r2, h3, h4⟩ := h2
      cases r2 with
      | inl f => cases h4
      | inr v =>
        cases h4
        have a := suR_ge h1
        have b := suR_ge h3
        show j ≤ v.1
        omega
    · rw [if_neg w] at h2; cases h2
/-- a condition that is read has tokens -/
theorem bR_gt {tk vl : Nat → Int} : ∀ m s r, itR (bst tk vl) m s r → ∀ u, r = .inr u → s.2.1 ≤ u.1
  | 0, _, _, h, _, _ => absurd h id
  | m + 1, s, r, h, u, hu => by
    rcases h with h | ⟨s2, h, h2⟩
    · subst hu
      unfold bst at h
      by_cases w1 : s.1 = true
      · rw [if_pos w1] at h
        by_cases w2 : tk s.2.1 = 5 ∨ tk s.2.1 = 40
        · rw [if_pos w2] at h
          by_cases w3 : cnO s.2.2.1 = 8
          · rw [if_pos w3] at h; cases h
          · rw [if_neg w3] at h; cases h
        · rw [if_neg w2] at h
          obtain ⟨r1, q1, q2⟩ := h
          cases r1 with
          | inl f => cases q2
          | inr q => cases q2
      · rw [if_neg w1] at h
        by_cases w2 : tk s.2.1 = 4
        · rw [if_pos w2] at h; cases h
        · rw [if_neg w2] at h
          by_cases w3 : tk s.2.1 = 3
          · rw [if_pos w3] at h; cases h
          · rw [if_neg w3] at h
            by_cases w4 : cnB (sAO s.2.2.1 s.2.2.2).1 = 0
            · rw [if_pos w4] at h; cases h; exact Nat.le_refl _
            · rw [if_neg w4] at h
              by_cases w5 : tk s.2.1 = 41
              · rw [if_pos w5] at h; cases h
              · rw [if_neg w5] at h; cases h
    · have ih := bR_gt m s2 r h2 u hu
      have key : s.2.1 ≤ s2.2.1 := by
        unfold bst at h
        by_cases w1 : s.1 = true
        · rw [if_pos w1] at h
          by_cases w2 : tk s.2.1 = 5 ∨ tk s.2.1 = 40
          · rw [if_pos w2] at h
            by_cases w3 : cnO s.2.2.1 = 8
            · rw [if_pos w3] at h; cases h
            · rw [if_neg w3] at h; cases h; exact Nat.le_succ _
          · rw [if_neg w2] at h
            obtain ⟨r1, q1, q2⟩ := h
            cases r1 with
            | inl f => cases q2
            | inr q => cases q2; exact cmR_ge q1
        · rw [if_neg w1] at h
          by_cases w2 : tk s.2.1 = 4
          · rw [if_pos w2] at h; cases h; exact Nat.le_succ _
          · rw [if_neg w2] at h
            by_cases w3 : tk s.2.1 = 3
            · rw [if_pos w3] at h; cases h; exact Nat.le_succ _
            · rw [if_neg w3] at h
              by_cases w4 : cnB (sAO s.2.2.1 s.2.2.2).1 = 0
              · rw [if_pos w4] at h; cases h
              · rw [if_neg w4] at h
                by_cases w5 : tk s.2.1 = 41
                · rw [if_pos w5] at h; cases h; exact Nat.le_succ _
                · rw [if_neg w5] at h; cases h
      omega
theorem any_gt {tk vl : Nat → Int} {s : BS} {r : RS} (h : bR tk vl s r) {j : Nat} (hj : j < s.2.1) : ∀ u, r = .inr u → j < u.1 := fun u hu => by
  obtain ⟨m, hm⟩ := h
  have := bR_gt m s r hm u hu
  omega
/-! the other reader: the whole text -/
def i9 (i : Int) : Prop := i ≠ 18 ∧ i ≠ 19 ∧ i ≠ 20 ∧ i ≠ 21 ∧ i ≠ 29 ∧ i ≠ 30 ∧ i ≠ 32 ∧ i ≠ 33 ∧ i ≠ 34
def qB3 (μb σ : ot_M) : Prop := (∀ k, k ≠ 60 → k < 74 ∨ 79 < k → σ k = μb k) ∧ ∀ i, i9 i → σ 60 i = μb 60 i
def lw3 (μb σ : ot_M) : Prop := ∀ i : Int, i < 16 → σ 74 i = μb 74 i ∧ σ 75 i = μb 75 i ∧ σ 76 i = μb 76 i
def lw7 (μb σ : ot_M) : Prop := ∀ i : Int, i < 400 → σ 77 i = μb 77 i ∧ σ 78 i = μb 78 i
def rwQ (ls : List (Int × CL)) (σ : ot_M) : Prop := ∀ (i : Nat) (x : Int × CL), ls[i]? = some x → σ 74 (16 + (i : Int)) = x.1 ∧ σ 75 (16 + (i : Int)) = ((fl (ls.take i)).length : Int) ∧ σ 76 (16 + (i : Int)) = ((fl (ls.take (i + 1))).length : Int) ∧ (x.1 = 0 ∨ x.1 = 1)
def rtB (T : Nat → Int) (n : Nat) (μb : ot_M) (ls : List (Int × CL)) (j : Nat) (A : CL) (σ : ot_M) : Prop := qB3 μb σ ∧ lw3 μb σ ∧ rwQ ls σ ∧ qS T n σ 0 (μb 77) (μb 78) (j, A) σ ∧ σ 60 30 = 0
def rtI (T : Nat → Int) (n : Nat) (μb : ot_M) (j : Nat) (ls : List (Int × CL)) (σ : ot_M) : Prop := rtB T n μb ls j (fl ls) σ ∧ (∀ x, tR1 (tkT T n) (vlT T n) (0, []) x ↔ tR1 (tkT T n) (vlT T n) (j, ls) x) ∧ (fl ls).length ≤ j ∧ ls.length ≤ 16
def rtM (T : Nat → Int) (n : Nat) (μb : ot_M) (ls : List (Int × CL)) (t : Int) (j : Nat) (A : CL) (σ : ot_M) : Prop := rtB T n μb ls j A σ ∧ σ 74 (16 + (ls.length : Int)) = t ∧ σ 75 (16 + (ls.length : Int)) = ((fl ls).length : Int)
def rtF (T : Nat → Int) (n : Nat) (μb : ot_M) (f : Int × Nat) (σ : ot_M) : Prop := qB3 μb σ ∧ lw3 μb σ ∧ lw7 μb σ ∧ σ 60 33 = f.1 ∧ σ 60 34 = (psN T n f.2 : Int) ∧ (-1 ≤ σ 60 21 ∧ σ 60 21 ≤ 99999)
section RQ9
variable {T : Nat → Int} {n : Nat} {μb : ot_M} {ls : List (Int × CL)} {j : Nat} {A : CL} {σ σ2 : ot_M} {t : Int}
theorem rtB_of {j2 : Nat} {A2 : CL} (h : rtB T n μb ls j A σ) (ek : ∀ k, k ≠ 60 → k ≠ 77 → k ≠ 78 → k ≠ 79 → σ2 k = σ k) (e60 : ∀ i, i9 i → σ2 60 i = σ 60 i) (e30 : σ2 60 30 = 0) (hq : qS T n σ2 0 (μb 77) (μb 78) (j2, A2) σ2) : rtB T n μb ls j2 A2 σ2 := by
  obtain ⟨⟨a1, a2⟩, a3, a4, a5, a6⟩ := h
  have e74 := ek 74 (by decide) (by decide) (by decide) (by decide)
  have e75 := ek 75 (by decide) (by decide) (by decide) (by decide)
  have e76 := ek 76 (by decide) (by decide) (by decide) (by decide)
  refine ⟨⟨fun k w1 w2 => ?_, fun i w => ?_⟩, fun i hi => ?_, fun i x hx => ?_, hq, e30⟩
  · rw [ek k w1 (by omega) (by omega) (by omega)]; exact a1 k w1 w2
  · rw [e60 i w]; exact a2 i w
  · rw [e74, e75, e76]; exact a3 i hi
  · rw [e74, e75, e76]; exact a4 i x hx
theorem rtM_of {j2 : Nat} {A2 : CL} (h : rtM T n μb ls t j A σ) (ek : ∀ k, k ≠ 60 → k ≠ 77 → k ≠ 78 → k ≠ 79 → σ2 k = σ k) (e60 : ∀ i, i9 i → σ2 60 i = σ 60 i) (e30 : σ2 60 30 = 0) (hq : qS T n σ2 0 (μb 77) (μb 78) (j2, A2) σ2) : rtM T n μb ls t j2 A2 σ2 := by
  obtain ⟨h1, h2, h3⟩ := h
  refine ⟨rtB_of h1 ek e60 e30 hq, ?_, ?_⟩
  · rw [ek 74 (by decide) (by decide) (by decide) (by decide)]; exact h2
  · rw [ek 75 (by decide) (by decide) (by decide) (by decide)]; exact h3
theorem i9_r {i : Int} (h : i9 i) : i ≠ 18 ∧ i ≠ 19 ∧ i ≠ 20 ∧ i ≠ 21 := ⟨h.1, h.2.1, h.2.2.1, h.2.2.2.1⟩
theorem rtB_reads (h : rtB T n μb ls j A σ) (hlt : psN T n j < n) {sp : Nat} {tk vl : Int} (e : σ2 = rqM σ (sp : Int) (skN T n (spT T n j) : Int) tk vl) (hsp : sp = if skN T n (spT T n j) < n then enN T n (skN T n (spT T n j)) else n) (ht : tqR T n (skN T n (spT T n j)) tk vl) (hv : vl = σ 60 21 ∨ (-1 ≤ vl ∧ vl ≤ 99999)) : rtB T n μb ls (j + 1) A σ2 := by
  have hq := qS_reads (q := (j, A)) h.2.2.2.1 hlt e hsp ht hv
  refine rtB_of h (fun k w1 _ _ _ => by rw [e, rqM_o w1]) (fun i w => by rw [e, rqM_f (i9_r w)]) ?_ (qS_same hq (fun _ _ => rfl) rfl rfl)
  rw [e, rqM_f (by decide)]
  exact h.2.2.2.2
theorem rtM_reads (h : rtM T n μb ls t j A σ) (hlt : psN T n j < n) {sp : Nat} {tk vl : Int} (e : σ2 = rqM σ (sp : Int) (skN T n (spT T n j) : Int) tk vl) (hsp : sp = if skN T n (spT T n j) < n then enN T n (skN T n (spT T n j)) else n) (ht : tqR T n (skN T n (spT T n j)) tk vl) (hv : vl = σ 60 21 ∨ (-1 ≤ vl ∧ vl ≤ 99999)) : rtM T n μb ls t (j + 1) A σ2 := by
  refine ⟨rtB_reads h.1 hlt e hsp ht hv, ?_, ?_⟩
  · rw [e, rqM_o (by decide)]; exact h.2.1
  · rw [e, rqM_o (by decide)]; exact h.2.2
/-- a row of the lines is written -/
theorem rtB_put (h : rtB T n μb ls j A σ) {k : Nat} (hk : k = 74 ∨ k = 75 ∨ k = 76) {v : Int} (e : σ2 = ot_up σ k (16 + (ls.length : Int)) v) : rtB T n μb ls j A σ2 := by
  obtain ⟨⟨a1, a2⟩, a3, a4, a5, a6⟩ := h
  have hk60 : (60 : Nat) ≠ k := by omega
  have e60 : σ2 60 = σ 60 := by rw [e]; funext i; simp [ot_up, hk60]
  have eo : ∀ q, q ≠ k → σ2 q = σ q := fun q hq => by rw [e]; funext i; simp [ot_up, hq]
  have eat : ∀ (q : Nat) (i : Int), i ≠ 16 + (ls.length : Int) → σ2 q i = σ q i := fun q i hi => by
    rw [e]
    by_cases w : q = k
    · subst w; simp [ot_up, hi]
    · simp [ot_up, w]
  refine ⟨⟨fun q w1 w2 => ?_, fun i w => ?_⟩, fun i hi => ?_, fun i x hx => ?_, ?_, ?_⟩
  · rw [eo q (by omega)]; exact a1 q w1 w2
  · rw [e60]; exact a2 i w
  · have : i ≠ 16 + (ls.length : Int) := by omega
    rw [eat 74 i this, eat 75 i this, eat 76 i this]; exact a3 i hi
  · have hil : i < ls.length := by
      apply Classical.byContradiction
      intro w
      rw [List.getElem?_eq_none (by omega)] at hx
      cases hx
    have : 16 + (i : Int) ≠ 16 + (ls.length : Int) := by omega
    rw [eat 74 _ this, eat 75 _ this, eat 76 _ this]; exact a4 i x hx
  · exact qS_same a5 (fun i _ => by rw [e60]) (eo 77 (by omega)) (eo 78 (by omega))
  · rw [e60]; exact a6
theorem rtM_start {σ3 : ot_M} (h : rtB T n μb ls j A σ) (h74 : σ 74 (16 + (ls.length : Int)) = t) (hA : A = fl ls) (e3 : σ3 = ot_up σ 75 (16 + (ls.length : Int)) (σ 60 29)) : rtM T n μb ls t j A σ3 := by
  refine ⟨rtB_put h (k := 75) (by omega) e3, ?_, ?_⟩
  · rw [e3, ← h74]; simp [ot_up]
  · have h29 := h.2.2.2.1.2.2.2.2.2.1
    rw [e3]
    have : ot_up σ 75 (16 + (ls.length : Int)) (σ 60 29) 75 (16 + (ls.length : Int)) = σ 60 29 := by simp [ot_up]
    rw [this, h29, hA]
    show ((0 + (fl ls).length : Nat) : Int) = _
    rw [Nat.zero_add]
theorem rtM_to (h : rtM T n μb ls t j A σ) (e3 : σ2 = ot_up σ 76 (16 + (ls.length : Int)) (σ 60 29)) : rtM T n μb ls t j A σ2 ∧ σ2 76 (16 + (ls.length : Int)) = (A.length : Int) := by
  refine ⟨⟨rtB_put h.1 (k := 76) (by omega) e3, ?_, ?_⟩, ?_⟩
  · rw [e3, ← h.2.1]; simp [ot_up]
  · rw [e3, ← h.2.2]; simp [ot_up]
  · have h29 := h.1.2.2.2.1.2.2.2.2.2.1
    rw [e3]
    have : ot_up σ 76 (16 + (ls.length : Int)) (σ 60 29) 76 (16 + (ls.length : Int)) = σ 60 29 := by simp [ot_up]
    rw [this, h29]
    show ((0 + A.length : Nat) : Int) = _
    rw [Nat.zero_add]
theorem qS_fresh {f0 h0 : Int → Int} (h : qS T n μb 0 f0 h0 (j, A) σ) : qS T n σ A.length (σ 77) (σ 78) (j, []) σ := by
  obtain ⟨_, a3, a4, a5, a6, a7, a8, a9⟩ := h
  refine ⟨⟨fun _ _ _ _ => rfl, fun _ _ _ _ _ _ _ _ => rfl⟩, a3, a4, a5, a6, ?_, (fun i x hx => by cases hx), fun _ _ => ⟨rfl, rfl⟩⟩
  rw [a7]
  show ((0 + A.length : Nat) : Int) = ((A.length + 0 : Nat) : Int)
  rw [Nat.zero_add, Nat.add_zero]
theorem qS_join {f0 h0 : Int → Int} {μ1 : ot_M} {j2 : Nat} {B : CL} (hA : qS T n μb 0 f0 h0 (j, A) σ) (h : qS T n μ1 A.length (σ 77) (σ 78) (j2, B) σ2) : qS T n σ2 0 f0 h0 (j2, A ++ B) σ2 := by
  obtain ⟨_, _, _, _, _, _, c8, c9⟩ := hA
  obtain ⟨_, a3, a4, a5, a6, a7, a8, a9⟩ := h
  refine ⟨⟨fun _ _ _ _ => rfl, fun _ _ _ _ _ _ _ _ => rfl⟩, a3, a4, a5, a6, ?_, fun i x hx => ?_, fun i hi => ?_⟩
  · rw [a7]
    show ((A.length + B.length : Nat) : Int) = ((0 + (A ++ B).length : Nat) : Int)
    rw [List.length_append, Nat.zero_add]
  · replace hx : (A ++ B)[i]? = some x := hx
    by_cases w : i < A.length
    · rw [List.getElem?_append_left w] at hx
      have h1 := c8 i x hx
      have h2 := a9 (400 + ((0 + i : Nat) : Int)) (by omega)
      rw [h2.1, h2.2]
      exact h1
    · rw [List.getElem?_append_right (by omega)] at hx
      have h1 := a8 (i - A.length) x hx
      rw [show A.length + (i - A.length) = 0 + i by omega] at h1
      exact h1
  · have h1 := a9 i (by omega)
    have h2 := c9 i hi
    rw [h1.1, h1.2]
    exact h2
theorem rtM_any {u : Nat × CL} (h : rtM T n μb ls t j A σ) (h2 : qT T n σ A.length (σ 77) (σ 78) u [] σ2) : rtM T n μb ls t u.1 (A ++ u.2) σ2 := by
  have hq := qS_join h.1.2.2.2.1 h2.2.1
  refine rtM_of h (fun k w1 w2 w3 w4 => h2.1.1 k w1 w2 w3 w4) (fun i w => h2.1.2 i w.1 w.2.1 w.2.2.1 w.2.2.2.1 w.2.2.2.2.1 w.2.2.2.2.2.1 w.2.2.2.2.2.2.1 w.2.2.2.2.2.2.2.1 w.2.2.2.2.2.2.2.2) ?_ hq
  rw [h2.2.2.2.1]
  rfl
theorem rtM_anyF {f : Int × Nat} (h : rtM T n μb ls t j A σ) (h2 : qF2 T n σ (σ 77) (σ 78) f σ2) : rtF T n μb f σ2 := by
  obtain ⟨⟨⟨a1, a2⟩, a3, a4, a5, a6⟩, _⟩ := h
  obtain ⟨⟨b1, b2⟩, b3, b4, b5, b6⟩ := h2
  refine ⟨⟨fun k w1 w2 => ?_, fun i w => ?_⟩, fun i hi => ?_, fun i hi => ?_, b3, b4, b5⟩
  · rw [b1 k w1 (by omega) (by omega) (by omega)]; exact a1 k w1 w2
  · rw [b2 i w.1 w.2.1 w.2.2.1 w.2.2.2.1 w.2.2.2.2.1 w.2.2.2.2.2.1 w.2.2.2.2.2.2.1 w.2.2.2.2.2.2.2.1 w.2.2.2.2.2.2.2.2]; exact a2 i w
  · rw [b1 74 (by decide) (by decide) (by decide) (by decide), b1 75 (by decide) (by decide) (by decide) (by decide), b1 76 (by decide) (by decide) (by decide) (by decide)]; exact a3 i hi
  · have h1 := b6 i hi
    have h3 := a5.2.2.2.2.2.2.2 i (by omega)
    rw [h1.1, h1.2]
    exact h3
theorem rtB_err (h : rtB T n μb ls j A σ) {k : Int} (e : σ2 = ot_up (ot_up σ 60 33 k) 60 34 (σ 60 19)) : rtF T n μb (k, j) σ2 := by
  have hq := qS_err h.2.2.2.1 e
  obtain ⟨⟨a1, a2⟩, a3, a4, a5, a6⟩ := h
  have eo : ∀ q, q ≠ 60 → σ2 q = σ q := fun q hq => by rw [e]; funext i; simp [ot_up, hq]
  refine ⟨⟨fun q w1 w2 => ?_, fun i w => ?_⟩, fun i hi => ?_, hq.2.2.2.2, hq.2.1, hq.2.2.1, hq.2.2.2.1⟩
  · rw [eo q w1]; exact a1 q w1 w2
  · rw [← a2 i w, e]
    have w8 := w.2.2.2.2.2.2.2.1
    have w9 := w.2.2.2.2.2.2.2.2
    simp [ot_up, w8, w9]
  · rw [eo 74 (by decide), eo 75 (by decide), eo 76 (by decide)]; exact a3 i hi
/-- one line more -/
theorem rtM_next {B : CL} (h : rtM T n μb ls t j (fl ls ++ B) σ) (h76 : σ 76 (16 + (ls.length : Int)) = ((fl ls ++ B).length : Int)) (ht : t = 0 ∨ t = 1) : rtB T n μb (ls ++ [(t, B)]) j (fl (ls ++ [(t, B)])) σ := by
  obtain ⟨⟨a1, a3, a4, a5, a6⟩, a7, a8⟩ := h
  have hfl : fl (ls ++ [(t, B)]) = fl ls ++ B := by
    rw [fl_app]
    show fl ls ++ (B ++ []) = _
    rw [List.append_nil]
  refine ⟨a1, a3, fun i x hx => ?_, ?_, a6⟩
  · by_cases w : i < ls.length
    · rw [List.getElem?_append_left w] at hx
      rw [List.take_append_of_le_length (by omega), List.take_append_of_le_length (by omega)]
      exact a4 i x hx
    · rw [List.getElem?_append_right (by omega)] at hx
      have hi : i - ls.length = 0 := by
        apply Classical.byContradiction
        intro w2
        rw [List.getElem?_eq_none (by simp; omega)] at hx
        cases hx
      rw [hi] at hx
      cases hx
      have hil : i = ls.length := by omega
      subst hil
      rw [List.take_of_length_le (i := ls.length + 1) (by simp), hfl, List.take_append_of_le_length (Nat.le_refl _), List.take_length]
      exact ⟨a7, a8, h76, ht⟩
  · rw [hfl]; exact a5
theorem tq_end {t v : Int} {p : Nat} (h : tqR T n p t v) : t = 0 ↔ tkN T n p = 21 := by
  rcases h with h | h | h | h | h <;> omega
theorem tq_mb {t v : Int} {p : Nat} (h : tqR T n p t v) : (t = 2 ∧ v ≤ 1) ↔ (tkN T n p = 0 ∨ tkN T n p = 1) := by
  rcases h with h | h | h | h | h <;> omega
theorem rt_stop (h : rtI T n μb j ls σ) {f : Int × Nat} (h21 : tkT T n j ≠ 21) (hl : lnS (tkT T n) (vlT T n) j (ls.length : Int) (.inl f)) : tR1 (tkT T n) (vlT T n) (0, []) (.inl f) := by
  refine (h.2.1 _).mpr ((rsl_done txt1_d (r0 := .inl f) ?_ _).mpr rfl)
  unfold txt1
  rw [if_neg h21]
  exact ⟨.inl f, hl, rfl⟩
theorem rt_go (h : rtI T n μb j ls σ) {u : Nat × CL} (h21 : tkT T n j ≠ 21) (hl : lnS (tkT T n) (vlT T n) j (ls.length : Int) (.inr u)) (hb : rtB T n μb (ls ++ [(tkT T n j, u.2)]) u.1 (fl (ls ++ [(tkT T n j, u.2)])) σ2) (hn : (fl ls).length + u.2.length ≤ u.1) (h16 : ls.length < 16) : rtI T n μb u.1 (ls ++ [(tkT T n j, u.2)]) σ2 := by
  have hst : txt1 (tkT T n) (vlT T n) (j, ls) (.inr (u.1, ls ++ [(tkT T n j, u.2)])) := by
    unfold txt1
    rw [if_neg h21]
    exact ⟨.inr u, hl, rfl⟩
  refine ⟨hb, fun x => (h.2.1 x).trans (rsl_step txt1_d hst x), ?_, ?_⟩
  · rw [fl_app]
    show (fl ls ++ (u.2 ++ [])).length ≤ u.1
    rw [List.append_nil, List.length_append]
    exact hn
  · rw [List.length_append]
    show ls.length + 1 ≤ 16
    omega
end RQ9
theorem if_10 {z : Int} {P Q : Prop} {i1 : Decidable P} (h : z = if P then 1 else 0) (hk : P ↔ Q) : (z = 1 ∧ Q) ∨ (z = 0 ∧ ¬ Q) := by
  by_cases w : P
  · rw [if_pos w] at h; exact Or.inl ⟨h, hk.mp w⟩
  · rw [if_neg w] at h; exact Or.inr ⟨h, fun q => w (hk.mpr q)⟩
theorem qG_b {T : Nat → Int} {n : Nat} {μb σ : ot_M} {ls : List (Int × CL)} {j : Nat} {A : CL} (hg : qG T n μb) (h : rtB T n μb ls j A σ) : qG T n σ := by
  obtain ⟨g1, g2, g3, g4, g5⟩ := hg
  obtain ⟨⟨a1, a2⟩, _⟩ := h
  refine ⟨?_, g2, g3, ?_, ?_⟩
  · rw [a1 72 (by decide) (by decide)]; exact g1
  · rw [a2 17 ⟨by decide, by decide, by decide, by decide, by decide, by decide, by decide, by decide, by decide⟩]; exact g4
  · rw [a1 73 (by decide) (by decide)]; exact g5
/-- what readText answers -/
def rtO (T : Nat → Int) (n : Nat) (μb : ot_M) (tr : TR) (r : Int) (σ : ot_M) : Prop := match tr with
  | .inl f => r = -1 ∧ rtF T n μb f σ
  | .inr ls => r = (ls.length : Int) ∧ ls.length ≤ 16 ∧ (fl ls).length ≤ 400 ∧ ∃ j, rtB T n μb ls j (fl ls) σ
theorem psN_400 {T : Nat → Int} {n j : Nat} (hn : n ≤ 400) (h : tkT T n (j - 1) ≠ 21) : j ≤ 400 := by
  have := psN_idx (tk_lt_n h)
  have := tk_lt_n h
  omega
set_option maxRecDepth 100000 in
set_option maxHeartbeats 1000000 in
theorem q_readText (l : Launch) (g : ot_G) (ln : Nat) (ext : ot_L) (μ : ot_M) (T : Nat → Int) (n : Nat) (hg : qG T n μ) (hs : qS T n μ 0 (μ 77) (μ 78) (0, []) μ) (h30 : μ 60 30 = 0)  : ot_C l g yX10_readText cX10_readText 3 (some .int) 9 0 0 [.inr 60] (LL ln ext) μ (ot_pi (fun r L2 μ2 => L2 = LL ln ext ∧ ∃ tr, tR1 (tkT T n) (vlT T n) (0, []) tr ∧ rtO T n μ tr r μ2)) := by
  refine ot_enter (by decide) (Nat.le_of_ble_eq_true rfl) ?_
  intro p e s m args below meth c X hr
  obtain ⟨gT, gT2, gn, gt, gw⟩ := id hg
  refine tt_iconst X dX10_readText_0 ?_
  refine tt_istore_n X dX10_readText_1 (by decide) ?_
  have h2 : rtI T n μ 0 [] μ ∧ (fl []).length ≤ 400 := ⟨⟨⟨⟨fun _ _ _ => rfl, fun _ _ => rfl⟩, fun _ _ => ⟨rfl, rfl, rfl⟩, (fun i x hx => by cases hx), hs, h30⟩, fun x => Iff.rfl, Nat.le_refl _, Nat.zero_le _⟩, Nat.zero_le _⟩
  refine tt_loc [(0, _), (1, _)] ⟨rfl, rfl, trivial⟩ ?_
  refine tt_loop (α := ot_M × Nat × List (Int × CL)) (fun ((σ, j, ls)) => n - psN T n j) (fun ((σ, j, ls)) => rtI T n μ j ls σ ∧ (fl ls).length ≤ 400) (fun ((σ, j, ls)) => σ) (fun ((σ, j, ls)) => [(0, .inr 60), (1, .inl ((ls.length : Nat) : Int))]) (μ, 0, []) h2 ?_
  intro a hI ih
  obtain ⟨σ, j, ls⟩ := a
  try dsimp only at hI ih ⊢
  replace hI : rtI T n μ j ls σ ∧ (fl ls).length ≤ 400 := hI
  have hf4 := hI.2
  replace hI := hI.1
  have htq1 := hI.1.2.2.2.1.2.2.2.1
  have h201 := tqR_20 htq1
  have h211 := hI.1.2.2.2.1.2.2.2.2.1
  have h29 := hI.1.2.2.2.1.2.2.2.2.2.1
  dsimp only at htq1 h29
  have h16 := hI.2.2.2
  have hfj := hI.2.2.1
  have kend := tq_end htq1
  have kmb := tq_mb htq1
  have etk : tkT T n j = tkN T n (psN T n j) := rfl
  refine tt_aload_n X rfl dX10_readText_2 ?_
  refine tt_geti X fX10_145 (k_60 _ _) (by decide) (Or.inl rfl) dX10_readText_3 ?_
  try simp (disch := decide) only [ot_rd, ot_rs, ot_rf, ot_ucd, ot_ucs]
  refine tt_iconst X dX10_readText_6 ?_
  refine tt_icmp_ne X 117 (by first | omega | (simp (disch := decide) only [ot_rd, ot_rs, ot_rf, ot_ucd, ot_ucs]; omega)) dX10_readText_7 (by decide) (fun b7 => ?_) (fun b7 => ?_)
  · refine tt_aload_n X rfl dX10_readText_117 ?_
    refine tt_geti X fX10_145 (k_60 _ _) (by decide) (Or.inl rfl) dX10_readText_118 ?_
    try simp (disch := decide) only [ot_rd, ot_rs, ot_rf, ot_ucd, ot_ucs]
    refine tt_if_ne X 128 (by first | omega | (simp (disch := decide) only [ot_rd, ot_rs, ot_rf, ot_ucd, ot_ucs]; omega)) dX10_readText_121 (by decide) (fun b121 => ?_) (fun b121 => ?_)
    · refine tt_aload_n X rfl dX10_readText_128 ?_
      refine tt_iconst X dX10_readText_129 ?_
      refine tt_vi X rfl mX10_173 (q_errs l g ln ext _ _) (k_60 _ _) ⟨_, rfl, rfl⟩ rfl rfl (Nat.le_of_ble_eq_true rfl) (by decide) (by decide) (by decide) dX10_readText_130 (fun z130 L130 μ130 hp => ?_)
      obtain ⟨rfl, e130, hz130⟩ := hp
      have hs130 := rtB_err hI.1 e130
      refine tt_iret X ⟨hr.1, hr.2.1⟩ (by decide) (by decide) dX10_readText_133 ?_
      first
        | (refine ⟨rfl, .inr ls, (hI.2.1 _).mpr ((rsl_done txt1_d (r0 := .inr ls) ?_ _).mpr rfl), rfl, h16, hf4, j, hI.1⟩
           unfold txt1
           dsimp only
           rw [if_pos (show tkT T n j = 21 by omega)])
        | (refine ⟨rfl, .inl (1, j), rt_stop hI (by omega) ?_, hz130, hs130⟩
           unfold lnS
           rw [if_pos (by omega)])
    · refine tt_iload_n X rfl dX10_readText_124 ?_
      refine tt_goto X 133 dX10_readText_125 (by decide) ?_
      refine tt_iret X ⟨hr.1, hr.2.1⟩ (by decide) (by decide) dX10_readText_133 ?_
      first
        | (refine ⟨rfl, .inr ls, (hI.2.1 _).mpr ((rsl_done txt1_d (r0 := .inr ls) ?_ _).mpr rfl), rfl, h16, hf4, j, hI.1⟩
           unfold txt1
           dsimp only
           rw [if_pos (show tkT T n j = 21 by omega)])
        | (refine ⟨rfl, .inl (1, j), rt_stop hI (by omega) ?_, hz130, hs130⟩
           unfold lnS
           rw [if_pos (by omega)])
  · refine tt_aload_n X rfl dX10_readText_10 ?_
    refine tt_geti X fX10_148 (k_60 _ _) (by decide) (Or.inl rfl) dX10_readText_11 ?_
    try simp (disch := decide) only [ot_rd, ot_rs, ot_rf, ot_ucd, ot_ucs]
    refine tt_iconst X dX10_readText_14 ?_
    refine tt_icmp_gt X 117 (by first | omega | (simp (disch := decide) only [ot_rd, ot_rs, ot_rf, ot_ucd, ot_ucs]; omega)) dX10_readText_15 (by decide) (fun b15 => ?_) (fun b15 => ?_)
    · refine tt_aload_n X rfl dX10_readText_117 ?_
      refine tt_geti X fX10_145 (k_60 _ _) (by decide) (Or.inl rfl) dX10_readText_118 ?_
      try simp (disch := decide) only [ot_rd, ot_rs, ot_rf, ot_ucd, ot_ucs]
      refine tt_if_ne X 128 (by first | omega | (simp (disch := decide) only [ot_rd, ot_rs, ot_rf, ot_ucd, ot_ucs]; omega)) dX10_readText_121 (by decide) (fun b121 => ?_) (fun b121 => ?_)
      · refine tt_aload_n X rfl dX10_readText_128 ?_
        refine tt_iconst X dX10_readText_129 ?_
        refine tt_vi X rfl mX10_173 (q_errs l g ln ext _ _) (k_60 _ _) ⟨_, rfl, rfl⟩ rfl rfl (Nat.le_of_ble_eq_true rfl) (by decide) (by decide) (by decide) dX10_readText_130 (fun z130 L130 μ130 hp => ?_)
        obtain ⟨rfl, e130, hz130⟩ := hp
        have hs130 := rtB_err hI.1 e130
        refine tt_iret X ⟨hr.1, hr.2.1⟩ (by decide) (by decide) dX10_readText_133 ?_
        first
          | (refine ⟨rfl, .inr ls, (hI.2.1 _).mpr ((rsl_done txt1_d (r0 := .inr ls) ?_ _).mpr rfl), rfl, h16, hf4, j, hI.1⟩
             unfold txt1
             dsimp only
             rw [if_pos (show tkT T n j = 21 by omega)])
          | (refine ⟨rfl, .inl (1, j), rt_stop hI (by omega) ?_, hz130, hs130⟩
             unfold lnS
             rw [if_pos (by omega)])
      · refine tt_iload_n X rfl dX10_readText_124 ?_
        refine tt_goto X 133 dX10_readText_125 (by decide) ?_
        refine tt_iret X ⟨hr.1, hr.2.1⟩ (by decide) (by decide) dX10_readText_133 ?_
        first
          | (refine ⟨rfl, .inr ls, (hI.2.1 _).mpr ((rsl_done txt1_d (r0 := .inr ls) ?_ _).mpr rfl), rfl, h16, hf4, j, hI.1⟩
             unfold txt1
             dsimp only
             rw [if_pos (show tkT T n j = 21 by omega)])
          | (refine ⟨rfl, .inl (1, j), rt_stop hI (by omega) ?_, hz130, hs130⟩
             unfold lnS
             rw [if_pos (by omega)])
    · have htj : tkT T n j = 0 ∨ tkT T n j = 1 := kmb.mp (by omega)
      have hlt1 : psN T n j < n := tk_lt_n (by omega)
      have hvj : σ 60 21 = tkT T n j := by
        rcases htq1 with h | h | h | h | h <;> omega
      refine tt_iload_n X rfl dX10_readText_18 ?_
      refine tt_bipush X (by decide) dX10_readText_19 ?_
      refine tt_icmp_ne X 30 (by first | omega | (simp (disch := decide) only [ot_rd, ot_rs, ot_rf, ot_ucd, ot_ucs]; omega)) dX10_readText_21 (by decide) (fun b21 => ?_) (fun b21 => ?_)
      · have hl16 : ls.length < 16 := by omega
        refine tt_bipush X (by decide) dX10_readText_30 ?_
        refine tt_iload_n X rfl dX10_readText_32 ?_
        refine tt_iadd X dX10_readText_33 ?_
        refine tt_istore_n X dX10_readText_34 (by decide) ?_
        refine tt_aload_n X rfl dX10_readText_35 ?_
        refine tt_getr X fX10_53 (k_60 _ _) (by decide) ⟨nofun, nofun⟩ rfl dX10_readText_36 ?_
        refine tt_iload_n X rfl dX10_readText_39 ?_
        refine tt_aload_n X rfl dX10_readText_40 ?_
        refine tt_geti X fX10_148 (k_60 _ _) (by decide) (Or.inl rfl) dX10_readText_41 ?_
        try simp (disch := decide) only [ot_rd, ot_rs, ot_rf, ot_ucd, ot_ucs]
        refine tt_iastore X (k_74 _ _) (by omega) dX10_readText_44 ?_
        refine tt_gen (fun σ4 e4 => ?_)
        rw [hvj] at e4
        have hb45 := rtB_put hI.1 (k := 74) (by omega) e4
        have h74 : σ4 74 (16 + (ls.length : Int)) = tkT T n j := by rw [e4]; simp [ot_up]
        refine tt_aload_n X rfl dX10_readText_45 ?_
        refine tt_vv X rfl mX10_180 (q_reads l g ln ext _ (spT T n _) hb45.2.2.2.1.2.1 T n (qG_b hg hb45).1 gT2 gn (qG_b hg hb45).2.2.2.1 (spT_le (q := (_, ([] : CL))) (psN_le _)) (qG_b hg hb45).2.2.2.2) (k_60 _ _) ⟨_, rfl, rfl⟩ rfl rfl (Nat.le_of_ble_eq_true rfl) (by decide) (by decide) (by decide) dX10_readText_46 (fun L46 μ46 hp => ?_)
        obtain ⟨rfl, sp46, tk46, vl46, e46, hsp46, ht46, hv46⟩ := hp
        have hb46 := rtB_reads hb45 (hlt1) e46 hsp46 ht46 hv46
        refine tt_aload_n X rfl dX10_readText_49 ?_
        refine tt_getr X fX10_56 (k_60 _ _) (by decide) ⟨nofun, nofun⟩ rfl dX10_readText_50 ?_
        refine tt_iload_n X rfl dX10_readText_53 ?_
        refine tt_aload_n X rfl dX10_readText_54 ?_
        refine tt_geti X fX10_170 (k_60 _ _) (by decide) (Or.inl rfl) dX10_readText_55 ?_
        try simp (disch := decide) only [ot_rd, ot_rs, ot_rf, ot_ucd, ot_ucs]
        refine tt_iastore X (k_75 _ _) (by omega) dX10_readText_58 ?_
        refine tt_gen (fun σ5 e5 => ?_)
        have h74b : μ46 74 (16 + (ls.length : Int)) = tkT T n j := by rw [e46, rqM_o (by decide)]; exact h74
        have hm59 := rtM_start hb46 h74b rfl e5
        refine tt_aload_n X rfl dX10_readText_59 ?_
        refine tt_iconst X dX10_readText_60 ?_
        refine tt_vi X rfl mX10_202 (q_isWord l g ln ext _ 2 (by omega) (by have := tqR_20 hm59.1.2.2.2.1.2.2.2.1; omega) (by have := hm59.1.2.2.2.1.2.2.2.2.1; omega)) (k_60 _ _) ⟨_, rfl, rfl⟩ rfl rfl (Nat.le_of_ble_eq_true rfl) (by decide) (by decide) (by decide) dX10_readText_61 (fun z61 L61 μ61 hp => ?_)
        obtain ⟨rfl, e61, hz61⟩ := hp
        replace e61 := e61.symm
        subst e61
        have hw61 : (z61 = 1 ∧ tkT T n (j + 1) = 2) ∨ (z61 = 0 ∧ tkT T n (j + 1) ≠ 2) := if_10 hz61 (tq_word hm59.1.2.2.2.1.2.2.2.1 2 (by omega))
        clear hz61
        try simp (disch := decide) only [ot_rd, ot_rs, ot_rf, ot_ucd, ot_ucs] at hz61
        refine tt_if_eq X 81 (by first | omega | (simp (disch := decide) only [ot_rd, ot_rs, ot_rf, ot_ucd, ot_ucs]; omega)) dX10_readText_64 (by decide) (fun b64 => ?_) (fun b64 => ?_)
        · obtain ⟨jj, B, hm81, hln, hjn⟩ : ∃ (jj : Nat) (B : CL), rtM T n μ ls (tkT T n j) jj (fl ls ++ B) σ5 ∧ (∀ o : RS, (if tkT T n jj = 59 then o = .inr (jj + 1, B) else o = .inl (1, jj)) → lnS (tkT T n) (vlT T n) j (ls.length : Int) o) ∧ (fl ls).length + B.length ≤ jj ∧ j < jj ∧ tkT T n (jj - 1) ≠ 21 := by
            refine ⟨j + 1, [], ?_, fun o ho => ?_, ?_, by omega, ?_⟩
            · rw [List.append_nil]; exact hm59
            · unfold lnS
              rw [if_neg (by omega), if_neg (by omega), if_neg (by omega)]
              by_cases w : tkT T n (j + 1) = 59
              · rw [if_pos w] at ho ⊢; exact ho
              · rw [if_neg w] at ho ⊢; exact ho
            · show (fl ls).length + 0 ≤ j + 1
              omega
            · rw [Nat.add_sub_cancel]; omega
          refine tt_aload_n X rfl dX10_readText_81 ?_
          refine tt_getr X fX10_59 (k_60 _ _) (by decide) ⟨nofun, nofun⟩ rfl dX10_readText_82 ?_
          refine tt_iload_n X rfl dX10_readText_85 ?_
          refine tt_aload_n X rfl dX10_readText_86 ?_
          refine tt_geti X fX10_170 (k_60 _ _) (by decide) (Or.inl rfl) dX10_readText_87 ?_
          try simp (disch := decide) only [ot_rd, ot_rs, ot_rf, ot_ucd, ot_ucs]
          refine tt_iastore X (k_76 _ _) (by omega) dX10_readText_90 ?_
          refine tt_gen (fun σ6 e6 => ?_)
          have hm91 := rtM_to hm81 e6
          refine tt_aload_n X rfl dX10_readText_91 ?_
          refine tt_bipush X (by decide) dX10_readText_92 ?_
          refine tt_vi X rfl mX10_187 (q_isSign l g ln ext _ 59 (by omega) (by have := tqR_20 hm91.1.1.2.2.2.1.2.2.2.1; omega) (by have := hm91.1.1.2.2.2.1.2.2.2.2.1; omega)) (k_60 _ _) ⟨_, rfl, rfl⟩ rfl rfl (Nat.le_of_ble_eq_true rfl) (by decide) (by decide) (by decide) dX10_readText_94 (fun z94 L94 μ94 hp => ?_)
          obtain ⟨rfl, e94, hz94⟩ := hp
          replace e94 := e94.symm
          subst e94
          have hw94 : (z94 = 1 ∧ tkT T n jj = 59) ∨ (z94 = 0 ∧ tkT T n jj ≠ 59) := if_10 hz94 (tq_sign hm91.1.1.2.2.2.1.2.2.2.1 59 (by omega))
          clear hz94
          try simp (disch := decide) only [ot_rd, ot_rs, ot_rf, ot_ucd, ot_ucs] at hz94
          refine tt_if_ne X 106 (by first | omega | (simp (disch := decide) only [ot_rd, ot_rs, ot_rf, ot_ucd, ot_ucs]; omega)) dX10_readText_97 (by decide) (fun b97 => ?_) (fun b97 => ?_)
          · have hb106 := rtM_next hm91.1 hm91.2 htj
            have h59 : tkT T n jj = 59 := by omega
            refine tt_aload_n X rfl dX10_readText_106 ?_
            refine tt_vv X rfl mX10_180 (q_reads l g ln ext _ (spT T n _) hb106.2.2.2.1.2.1 T n (qG_b hg hb106).1 gT2 gn (qG_b hg hb106).2.2.2.1 (spT_le (q := (_, ([] : CL))) (psN_le _)) (qG_b hg hb106).2.2.2.2) (k_60 _ _) ⟨_, rfl, rfl⟩ rfl rfl (Nat.le_of_ble_eq_true rfl) (by decide) (by decide) (by decide) dX10_readText_107 (fun L107 μ107 hp => ?_)
            obtain ⟨rfl, sp107, tk107, vl107, e107, hsp107, ht107, hv107⟩ := hp
            have hb107 := rtB_reads hb106 (tk_lt_n (show tkT T n jj ≠ 21 by omega)) e107 hsp107 ht107 hv107
            refine tt_iload_n X rfl dX10_readText_110 ?_
            refine tt_iconst X dX10_readText_111 ?_
            refine tt_iadd X dX10_readText_112 ?_
            refine tt_istore_n X dX10_readText_113 (by decide) ?_
            have hlnr := hln (.inr (jj + 1, B)) (by rw [if_pos h59])
            have hB : rtI T n μ (jj + 1) (ls ++ [(tkT T n j, B)]) μ107 ∧ (fl (ls ++ [(tkT T n j, B)])).length ≤ 400 := by
              have h1 := rt_go (u := (jj + 1, B)) hI (by omega) hlnr hb107 (by show (fl ls).length + B.length ≤ jj + 1; omega) hl16
              refine ⟨h1, ?_⟩
              have := psN_400 gn (j := jj) hjn.2.2
              rw [fl_app]
              show (fl ls ++ (B ++ [])).length ≤ 400
              rw [List.append_nil, List.length_append]
              omega
            have hM : n - psN T n (jj + 1) < n - psN T n j := by have := psN_lt2 (T := T) (n := n) (j := jj + 1) hlt1 (by omega); omega
            have hL : ((ls.length : Nat) : Int) + 1 = (((ls ++ [(tkT T n j, B)]).length : Nat) : Int) := by rw [List.length_append]; rfl
            refine tt_goto X 2 dX10_readText_114 (by decide) ?_
            refine tt_loc [(0, _), (1, _)] ⟨rfl, rfl, trivial⟩ ?_
            rw [hL]
            exact ih (_, _, _) hB hM
          · refine tt_aload_n X rfl dX10_readText_100 ?_
            refine tt_iconst X dX10_readText_101 ?_
            refine tt_vi X rfl mX10_173 (q_errs l g ln ext _ _) (k_60 _ _) ⟨_, rfl, rfl⟩ rfl rfl (Nat.le_of_ble_eq_true rfl) (by decide) (by decide) (by decide) dX10_readText_102 (fun z102 L102 μ102 hp => ?_)
            obtain ⟨rfl, e102, hz102⟩ := hp
            have hs102 := rtB_err hm91.1.1 e102
            refine tt_iret X ⟨hr.1, hr.2.1⟩ (by decide) (by decide) dX10_readText_105 ?_
            refine ⟨rfl, .inl (1, jj), rt_stop hI (by omega) (hln _ ?_), hz102, hs102⟩
            rw [if_neg (by omega)]
        · refine tt_aload_n X rfl dX10_readText_67 ?_
          refine tt_vv X rfl mX10_180 (q_reads l g ln ext _ (spT T n _) hm59.1.2.2.2.1.2.1 T n (qG_b hg hm59.1).1 gT2 gn (qG_b hg hm59.1).2.2.2.1 (spT_le (q := (_, ([] : CL))) (psN_le _)) (qG_b hg hm59.1).2.2.2.2) (k_60 _ _) ⟨_, rfl, rfl⟩ rfl rfl (Nat.le_of_ble_eq_true rfl) (by decide) (by decide) (by decide) dX10_readText_68 (fun L68 μ68 hp => ?_)
          obtain ⟨rfl, sp68, tk68, vl68, e68, hsp68, ht68, hv68⟩ := hp
          have hm68 := rtM_reads hm59 (tk_lt_n (show tkT T n (j + 1) ≠ 21 by omega)) e68 hsp68 ht68 hv68
          refine tt_aload_n X rfl dX10_readText_71 ?_
          refine tt_vi X rfl mX10_214 (q_readAny l g ln ext _ T n (fl ls).length _ _ (qG_b hg hm68.1) (j + 1 + 1, []) (qS_fresh hm68.1.2.2.2.1) hm68.1.2.2.2.2 (by show (fl ls).length + 0 ≤ j + 1 + 1; omega) (by show tkT T n (j + 1 + 1 - 1) ≠ 21; rw [Nat.add_sub_cancel]; omega)) (k_60 _ _) ⟨_, rfl, rfl⟩ rfl rfl (Nat.le_of_ble_eq_true rfl) (by decide) (by decide) (by decide) dX10_readText_72 (fun z72 L72 μ72 hp => ?_)
          obtain ⟨rfl, o72, ho72, hq72⟩ := hp
          have hz72 : z72 = -1 ∨ z72 = 0 := by
            cases o72 with
            | inl f => exact Or.inl hq72.1
            | inr u => exact Or.inr hq72.1
          refine tt_iconst X dX10_readText_75 ?_
          refine tt_icmp_ne X 81 (by first | omega | (simp (disch := decide) only [ot_rd, ot_rs, ot_rf, ot_ucd, ot_ucs]; omega)) dX10_readText_76 (by decide) (fun b76 => ?_) (fun b76 => ?_)
          · obtain ⟨jj, B, hm81, hln, hjn⟩ : ∃ (jj : Nat) (B : CL), rtM T n μ ls (tkT T n j) jj (fl ls ++ B) μ72 ∧ (∀ o : RS, (if tkT T n jj = 59 then o = .inr (jj + 1, B) else o = .inl (1, jj)) → lnS (tkT T n) (vlT T n) j (ls.length : Int) o) ∧ (fl ls).length + B.length ≤ jj ∧ j < jj ∧ tkT T n (jj - 1) ≠ 21 := by
              cases o72 with
              | inl f => exact absurd hq72.1 (by omega)
              | inr u =>
                have h3 := hq72.2.2
                have hgt : j < u.1 := any_gt ho72 (show j < j + 1 + 1 by omega) u rfl
                refine ⟨u.1, u.2, rtM_any hm68 hq72.2.1, fun o ho => ?_, h3.1, hgt, h3.2⟩
                unfold lnS
                rw [if_neg (by omega), if_neg (by omega), if_pos (by omega)]
                exact ⟨.inr u, ho72, ho⟩
            refine tt_aload_n X rfl dX10_readText_81 ?_
            refine tt_getr X fX10_59 (k_60 _ _) (by decide) ⟨nofun, nofun⟩ rfl dX10_readText_82 ?_
            refine tt_iload_n X rfl dX10_readText_85 ?_
            refine tt_aload_n X rfl dX10_readText_86 ?_
            refine tt_geti X fX10_170 (k_60 _ _) (by decide) (Or.inl rfl) dX10_readText_87 ?_
            try simp (disch := decide) only [ot_rd, ot_rs, ot_rf, ot_ucd, ot_ucs]
            refine tt_iastore X (k_76 _ _) (by omega) dX10_readText_90 ?_
            refine tt_gen (fun σ6 e6 => ?_)
            have hm91 := rtM_to hm81 e6
            refine tt_aload_n X rfl dX10_readText_91 ?_
            refine tt_bipush X (by decide) dX10_readText_92 ?_
            refine tt_vi X rfl mX10_187 (q_isSign l g ln ext _ 59 (by omega) (by have := tqR_20 hm91.1.1.2.2.2.1.2.2.2.1; omega) (by have := hm91.1.1.2.2.2.1.2.2.2.2.1; omega)) (k_60 _ _) ⟨_, rfl, rfl⟩ rfl rfl (Nat.le_of_ble_eq_true rfl) (by decide) (by decide) (by decide) dX10_readText_94 (fun z94 L94 μ94 hp => ?_)
            obtain ⟨rfl, e94, hz94⟩ := hp
            replace e94 := e94.symm
            subst e94
            have hw94 : (z94 = 1 ∧ tkT T n jj = 59) ∨ (z94 = 0 ∧ tkT T n jj ≠ 59) := if_10 hz94 (tq_sign hm91.1.1.2.2.2.1.2.2.2.1 59 (by omega))
            clear hz94
            try simp (disch := decide) only [ot_rd, ot_rs, ot_rf, ot_ucd, ot_ucs] at hz94
            refine tt_if_ne X 106 (by first | omega | (simp (disch := decide) only [ot_rd, ot_rs, ot_rf, ot_ucd, ot_ucs]; omega)) dX10_readText_97 (by decide) (fun b97 => ?_) (fun b97 => ?_)
            · have hb106 := rtM_next hm91.1 hm91.2 htj
              have h59 : tkT T n jj = 59 := by omega
              refine tt_aload_n X rfl dX10_readText_106 ?_
              refine tt_vv X rfl mX10_180 (q_reads l g ln ext _ (spT T n _) hb106.2.2.2.1.2.1 T n (qG_b hg hb106).1 gT2 gn (qG_b hg hb106).2.2.2.1 (spT_le (q := (_, ([] : CL))) (psN_le _)) (qG_b hg hb106).2.2.2.2) (k_60 _ _) ⟨_, rfl, rfl⟩ rfl rfl (Nat.le_of_ble_eq_true rfl) (by decide) (by decide) (by decide) dX10_readText_107 (fun L107 μ107 hp => ?_)
              obtain ⟨rfl, sp107, tk107, vl107, e107, hsp107, ht107, hv107⟩ := hp
              have hb107 := rtB_reads hb106 (tk_lt_n (show tkT T n jj ≠ 21 by omega)) e107 hsp107 ht107 hv107
              refine tt_iload_n X rfl dX10_readText_110 ?_
              refine tt_iconst X dX10_readText_111 ?_
              refine tt_iadd X dX10_readText_112 ?_
              refine tt_istore_n X dX10_readText_113 (by decide) ?_
              have hlnr := hln (.inr (jj + 1, B)) (by rw [if_pos h59])
              have hB : rtI T n μ (jj + 1) (ls ++ [(tkT T n j, B)]) μ107 ∧ (fl (ls ++ [(tkT T n j, B)])).length ≤ 400 := by
                have h1 := rt_go (u := (jj + 1, B)) hI (by omega) hlnr hb107 (by show (fl ls).length + B.length ≤ jj + 1; omega) hl16
                refine ⟨h1, ?_⟩
                have := psN_400 gn (j := jj) hjn.2.2
                rw [fl_app]
                show (fl ls ++ (B ++ [])).length ≤ 400
                rw [List.append_nil, List.length_append]
                omega
              have hM : n - psN T n (jj + 1) < n - psN T n j := by have := psN_lt2 (T := T) (n := n) (j := jj + 1) hlt1 (by omega); omega
              have hL : ((ls.length : Nat) : Int) + 1 = (((ls ++ [(tkT T n j, B)]).length : Nat) : Int) := by rw [List.length_append]; rfl
              refine tt_goto X 2 dX10_readText_114 (by decide) ?_
              refine tt_loc [(0, _), (1, _)] ⟨rfl, rfl, trivial⟩ ?_
              rw [hL]
              exact ih (_, _, _) hB hM
            · refine tt_aload_n X rfl dX10_readText_100 ?_
              refine tt_iconst X dX10_readText_101 ?_
              refine tt_vi X rfl mX10_173 (q_errs l g ln ext _ _) (k_60 _ _) ⟨_, rfl, rfl⟩ rfl rfl (Nat.le_of_ble_eq_true rfl) (by decide) (by decide) (by decide) dX10_readText_102 (fun z102 L102 μ102 hp => ?_)
              obtain ⟨rfl, e102, hz102⟩ := hp
              have hs102 := rtB_err hm91.1.1 e102
              refine tt_iret X ⟨hr.1, hr.2.1⟩ (by decide) (by decide) dX10_readText_105 ?_
              refine ⟨rfl, .inl (1, jj), rt_stop hI (by omega) (hln _ ?_), hz102, hs102⟩
              rw [if_neg (by omega)]
          · refine tt_iconst X dX10_readText_79 ?_
            refine tt_iret X ⟨hr.1, hr.2.1⟩ (by decide) (by decide) dX10_readText_80 ?_
            refine ⟨rfl, ?_⟩
            cases o72 with
            | inr u => exact absurd hq72.1 (by omega)
            | inl f =>
              refine ⟨.inl f, rt_stop hI (by omega) ?_, rfl, rtM_anyF hm68 hq72.2⟩
              unfold lnS
              rw [if_neg (by omega), if_neg (by omega), if_pos (by omega)]
              exact ⟨.inl f, ho72, rfl⟩
      · refine tt_aload_n X rfl dX10_readText_24 ?_
        refine tt_iconst X dX10_readText_25 ?_
        refine tt_vi X rfl mX10_173 (q_errs l g ln ext _ _) (k_60 _ _) ⟨_, rfl, rfl⟩ rfl rfl (Nat.le_of_ble_eq_true rfl) (by decide) (by decide) (by decide) dX10_readText_26 (fun z26 L26 μ26 hp => ?_)
        obtain ⟨rfl, e26, hz26⟩ := hp
        have hs26 := rtB_err hI.1 e26
        refine tt_iret X ⟨hr.1, hr.2.1⟩ (by decide) (by decide) dX10_readText_29 ?_
        refine ⟨rfl, .inl (3, j), rt_stop hI (by omega) ?_, hz26, hs26⟩
        unfold lnS
        rw [if_neg (by omega), if_pos (by omega)]

/-! calls that change nothing that counts -/
def scC (μ μ1 : ot_M) : Prop := ∀ k, k < 60 → relK k → μ1 k = μ k
def scQ (μ1 μ2 : ot_M) : Prop := (∀ k, 61 ≤ k → relK k → μ2 k = μ1 k) ∧ ∀ i, relI i ∨ i = 21 → μ2 60 i = μ1 60 i
def scN (c : Nat) : Prop := c = 16 ∨ (36 ≤ c ∧ c ≤ 57) ∨ 60 ≤ c
section FR
variable {μ μ1 μ2 ν : ot_M} {c : Nat} {i v : Int} {f : Int → Int}
theorem fq_rfl : frQ μ μ := fun _ _ _ => rfl
theorem fq_up (h : frQ μ ν) (hc : c < 60 ∨ 88 ≤ c) : frQ μ (ot_up ν c i v) := fun k a b => by
  have hk : k ≠ c := by omega
  rw [← h k a b]; funext j; simp [ot_up, hk]
theorem fq_uc (h : frQ μ ν) (hc : c < 60 ∨ 88 ≤ c) : frQ μ (ot_uc ν c f) := fun k a b => by
  have hk : k ≠ c := by omega
  rw [← h k a b]; funext j; simp [ot_uc, hk]
theorem fc_rfl : frC μ μ := fun _ _ => rfl
theorem fc_up (h : frC μ ν) (hc : 60 ≤ c) : frC μ (ot_up ν c i v) := fun k a => by
  have hk : k ≠ c := by omega
  rw [← h k a]; funext j; simp [ot_up, hk]
theorem fc_uc (h : frC μ ν) (hc : 60 ≤ c) : frC μ (ot_uc ν c f) := fun k a => by
  have hk : k ≠ c := by omega
  rw [← h k a]; funext j; simp [ot_uc, hk]
theorem sc_ne (hc : scN c) {k : Nat} (h1 : k < 60) (h2 : relK k) : k ≠ c := by
  unfold scN at hc
  unfold relK at h2
  omega
theorem sc_rfl : scC μ μ := fun _ _ _ => rfl
theorem sc_up (h : scC μ ν) (hc : scN c) : scC μ (ot_up ν c i v) := fun k a b => by
  have hk := sc_ne hc a b
  rw [← h k a b]; funext j; simp [ot_up, hk]
theorem sc_uc (h : scC μ ν) (hc : scN c) : scC μ (ot_uc ν c f) := fun k a b => by
  have hk := sc_ne hc a b
  rw [← h k a b]; funext j; simp [ot_uc, hk]
theorem sq_rfl : scQ μ μ := ⟨fun _ _ _ => rfl, fun _ _ => rfl⟩
theorem sq_uc (h : scQ μ ν) (hc : 79 ≤ c ∧ c ≤ 86) : scQ μ (ot_uc ν c f) := by
  refine ⟨fun k a b => ?_, fun j hj => ?_⟩
  · have hk : k ≠ c := by unfold relK at b; omega
    rw [← h.1 k a b]; funext j; simp [ot_uc, hk]
  · have hk : (60 : Nat) ≠ c := by omega
    rw [← h.2 j hj]; simp [ot_uc, hk]
theorem rel_scr (h : rel μ) (hf : frQ μ μ1) (hc : scC μ μ1) (e53 : μ1 53 = μ 53) (hCh : gChd (μ 1 11) (μ 1 12) (μ 2) (μ 3) (μ1 38) (μ1 39)) (hfC : frC μ1 μ2) (hq : scQ μ1 μ2) : rel μ2 := by
  refine rel_same h (fun k hk => ?_) (fun i hi => ?_) ?_ ?_ ?_
  · by_cases w : k < 60
    · rw [hfC k w]; exact hc k w hk
    · have hk2 := hk
      unfold relK at hk2
      rw [hq.1 k (by omega) hk]; exact hf k (by omega) (by omega)
  · rw [hq.2 i (Or.inl hi), hf 60 (by decide) (by decide)]
  · rw [hq.2 21 (Or.inr rfl), hf 60 (by decide) (by decide)]; exact h.2.2.2.2.2.1.2.2.2.1
  · rw [hfC 38 (by decide), hfC 39 (by decide)]; exact hCh
  · unfold b53
    rw [hfC 53 (by decide), e53]; exact h.2.2.2.2.2.1.2.2.1
theorem crQ (h : rel μ) (hf : frQ μ μ1) : (μ1 60 0 = 0 ∧ μ1 60 1 = μ 1 11 ∧ μ1 60 2 = μ 1 12 ∧ μ1 60 11 = μ 1 13 ∧ μ1 60 23 = μ 12 4 ∧ μ1 60 14 = μ 0 14 ∧ μ1 60 17 = μ 0 10 ∧ μ1 60 35 = μ 0 11 ∧ μ1 60 36 = μ 0 12 ∧ μ1 60 46 = μ 0 2) ∧ (μ1 61 = μ 2 ∧ μ1 62 = μ 3 ∧ μ1 66 = μ 4 ∧ (fun k => μ1 67 k + 1) = μ 5 ∧ μ1 63 = μ 6 ∧ μ1 65 = μ 7 ∧ μ1 64 = μ 8 ∧ μ1 69 = μ 9 ∧ μ1 70 = μ 10 ∧ (fun k => μ1 68 k - 1) = μ 11 ∧ μ1 72 = μ 58 ∧ μ1 71 = μ 59) ∧ μ1 74 = μ 74 ∧ μ1 75 = μ 75 ∧ μ1 76 = μ 76 ∧ μ1 77 = μ 77 ∧ μ1 78 = μ 78 := by
  rw [hf 60 (by decide) (by decide), hf 61 (by decide) (by decide), hf 62 (by decide) (by decide), hf 63 (by decide) (by decide), hf 64 (by decide) (by decide), hf 65 (by decide) (by decide), hf 66 (by decide) (by decide), hf 67 (by decide) (by decide), hf 68 (by decide) (by decide), hf 69 (by decide) (by decide), hf 70 (by decide) (by decide), hf 71 (by decide) (by decide), hf 72 (by decide) (by decide)]
  exact ⟨h.2.2.2.2.2.2.1, h.2.2.2.2.2.2.2.1, hf 74 (by decide) (by decide), hf 75 (by decide) (by decide), hf 76 (by decide) (by decide), hf 77 (by decide) (by decide), hf 78 (by decide) (by decide)⟩
end FR
theorem lik_eq {F G : Int → Int} (h : ∀ q, 0 ≤ q → q < 4 → G q = F q) : likS F 3 = likS G 3 := by
  have key : ∀ n : Nat, n ≤ 3 → likS F n = likS G n ∧ 0 ≤ likS F n ∧ likS F n < 4 := by
    intro n
    induction n with
    | zero => intro _; exact ⟨rfl, (by show (0 : Int) ≤ 0; decide), (by show (0 : Int) < 4; decide)⟩
    | succ n ih =>
      intro hn
      obtain ⟨i1, i2, i3⟩ := ih (by omega)
      have e : likS G (n + 1) = likS F (n + 1) := by
        show (if G ((n : Int) + 1) < G (likS G n) then (n : Int) + 1 else likS G n) = (if F ((n : Int) + 1) < F (likS F n) then (n : Int) + 1 else likS F n)
        rw [← i1, h _ (by omega) (by omega), h _ i2 i3]
      refine ⟨e.symm, ?_⟩
      show 0 ≤ (if F ((n : Int) + 1) < F (likS F n) then (n : Int) + 1 else likS F n) ∧ (if F ((n : Int) + 1) < F (likS F n) then (n : Int) + 1 else likS F n) < 4
      split <;> omega
  exact (key 3 (by omega)).1
theorem gainS_cg {p x : Int} {w want d d2 sm : Int → Int} (h : ∀ k, 0 ≤ k → k < 64 → d k = d2 k) : gainS w want d sm p x = gainS w want d2 sm p x := by
  unfold gainS
  exact sumN_congr (fun k k1 k2 => by rw [h k k1 (by omega)])
theorem lst_one {k s n r r2 : Int} (h1 : lstT k s n r) (h2 : lstT k s n r2) : r = r2 := by
  rcases Int.lt_trichotomy r r2 with w | w | w
  · exact absurd h1.2.1 (h2.2.2 r h1.1.1 w)
  · exact w
  · exact absurd h2.2.1 (h1.2.2 r2 h2.1.1 w)
theorem v_fault {μ μ1 μ2 : ot_M} {r1 r2 : Int} {w : Int} (h : rel μ)  (hc : μ1 = μ ∧ r1 = (if w = 0 then μ 0 11 else if w = 1 then μ 0 12 else -1)) (hq : μ2 = μ1 ∧ r2 = (if w = 0 then μ1 60 35 else if w = 1 then μ1 60 36 else -1)) : r1 = r2 ∧ rel μ2 := by
  obtain ⟨eC, eR⟩ := hc
  have hf : frQ μ μ1 := by
    rw [eC]
    (repeat (first | exact fq_rfl | refine fq_uc ?_ (by omega) | refine fq_up ?_ (by omega)))
  obtain ⟨⟨x0, x1, x2, x11, x23, x14, x17, x35, x36, x46⟩, ⟨y61, y62, y66, y67, y63, y65, y64, y69, y70, y68, y72, y71⟩, z74, z75, z76, z77, z78⟩ := crQ h hf
  obtain ⟨eQ, eR2⟩ := hq
  have hOk := h.1
  have hCl := h.2.2.1
  have hCh := h.2.1
  refine ⟨?_, rel_scr h hf ?_ ?_ ?_ ?_ ?_⟩
  · rw [eR, eR2, x35, x36]
  · rw [eC]
    (repeat (first | exact sc_rfl | refine sc_uc ?_ (by unfold scN; omega) | refine sc_up ?_ (by unfold scN; omega)))
  · rw [eC]; try (funext i; simp [ot_up, ot_uc])
  · rw [eC]; exact hCh
  · rw [eQ]
    (repeat (first | exact fc_rfl | refine fc_uc ?_ (by omega) | refine fc_up ?_ (by omega)))
  · rw [eQ]
    (repeat (first | exact sq_rfl | refine sq_uc ?_ (by omega)))
theorem v_wound {μ μ1 μ2 : ot_M} {r1 r2 : Int} {t i : Int} (h : rel μ)  (hc : μ1 = μ ∧ r1 = (if 0 ≤ t ∧ t < 3 then (if i = -1 then μ 8 t else if 0 ≤ i ∧ i < μ 8 t then μ 7 (t * 120 + i) else -1) else -1)) (hq : μ2 = μ1 ∧ r2 = (if 0 ≤ t ∧ t < 3 then (if i = -1 then μ1 64 t else if 0 ≤ i ∧ i < μ1 64 t then μ1 65 (120 * t + i) else -1) else -1)) : r1 = r2 ∧ rel μ2 := by
  obtain ⟨eC, eR⟩ := hc
  have hf : frQ μ μ1 := by
    rw [eC]
    (repeat (first | exact fq_rfl | refine fq_uc ?_ (by omega) | refine fq_up ?_ (by omega)))
  obtain ⟨⟨x0, x1, x2, x11, x23, x14, x17, x35, x36, x46⟩, ⟨y61, y62, y66, y67, y63, y65, y64, y69, y70, y68, y72, y71⟩, z74, z75, z76, z77, z78⟩ := crQ h hf
  obtain ⟨eQ, eR2⟩ := hq
  have hOk := h.1
  have hCl := h.2.2.1
  have hCh := h.2.1
  refine ⟨?_, rel_scr h hf ?_ ?_ ?_ ?_ ?_⟩
  · rw [eR, eR2, y64, y65, Int.mul_comm t 120]
  · rw [eC]
    (repeat (first | exact sc_rfl | refine sc_uc ?_ (by unfold scN; omega) | refine sc_up ?_ (by unfold scN; omega)))
  · rw [eC]; try (funext i; simp [ot_up, ot_uc])
  · rw [eC]; exact hCh
  · rw [eQ]
    (repeat (first | exact fc_rfl | refine fc_uc ?_ (by omega) | refine fc_up ?_ (by omega)))
  · rw [eQ]
    (repeat (first | exact sq_rfl | refine sq_uc ?_ (by omega)))
theorem v_look {μ μ1 μ2 : ot_M} {r1 r2 : Int} {w : Int} (h : rel μ)  (hc : μ1 = μ ∧ r1 = lookS w (μ 1 11) (μ 1 12) (μ 1 13) (μ 12 4) (μ 0 14) (lenA (μ 2) (μ 3) (μ 8) (μ 7)) (μ 6) (μ 2) (μ 3)) (hq : μ2 = μ1 ∧ r2 = lookS w (μ1 60 1) (μ1 60 2) (μ1 60 11) (μ1 60 23) (μ1 60 14) (lenA (μ1 61) (μ1 62) (μ1 64) (μ1 65)) (μ1 63) (μ1 61) (μ1 62)) : r1 = r2 ∧ rel μ2 := by
  obtain ⟨eC, eR⟩ := hc
  have hf : frQ μ μ1 := by
    rw [eC]
    (repeat (first | exact fq_rfl | refine fq_uc ?_ (by omega) | refine fq_up ?_ (by omega)))
  obtain ⟨⟨x0, x1, x2, x11, x23, x14, x17, x35, x36, x46⟩, ⟨y61, y62, y66, y67, y63, y65, y64, y69, y70, y68, y72, y71⟩, z74, z75, z76, z77, z78⟩ := crQ h hf
  obtain ⟨eQ, eR2⟩ := hq
  have hOk := h.1
  have hCl := h.2.2.1
  have hCh := h.2.1
  refine ⟨?_, rel_scr h hf ?_ ?_ ?_ ?_ ?_⟩
  · rw [eR, eR2, x1, x2, x11, x23, x14, y61, y62, y63, y64, y65]
  · rw [eC]
    (repeat (first | exact sc_rfl | refine sc_uc ?_ (by unfold scN; omega) | refine sc_up ?_ (by unfold scN; omega)))
  · rw [eC]; try (funext i; simp [ot_up, ot_uc])
  · rw [eC]; exact hCh
  · rw [eQ]
    (repeat (first | exact fc_rfl | refine fc_uc ?_ (by omega) | refine fc_up ?_ (by omega)))
  · rw [eQ]
    (repeat (first | exact sq_rfl | refine sq_uc ?_ (by omega)))
theorem v_dark {μ μ1 μ2 : ot_M} {r1 r2 : Int} {x y : Int} (h : rel μ)  (hc : μ1 = μ ∧ r1 = (if 0 ≤ x ∧ x < μ 1 11 ∧ 0 ≤ y ∧ y < μ 1 11 then μ 34 (x + 8 * y) else -1)) (hq : r2 = (if 0 ≤ x ∧ x < μ1 60 1 ∧ 0 ≤ y ∧ y < μ1 60 1 then dk (μ1 60 1) (μ1 61) (μ1 62) (μ1 64) (μ1 65) (μ1 63) (8 * y + x) else -1) ∧ ∃ f D, μ2 = ot_uc (ot_uc μ1 82 f) 83 D) : r1 = r2 ∧ rel μ2 := by
  obtain ⟨eC, eR⟩ := hc
  have hf : frQ μ μ1 := by
    rw [eC]
    (repeat (first | exact fq_rfl | refine fq_uc ?_ (by omega) | refine fq_up ?_ (by omega)))
  obtain ⟨⟨x0, x1, x2, x11, x23, x14, x17, x35, x36, x46⟩, ⟨y61, y62, y66, y67, y63, y65, y64, y69, y70, y68, y72, y71⟩, z74, z75, z76, z77, z78⟩ := crQ h hf
  obtain ⟨eR2, f, D, eQ⟩ := hq
  have hOk := h.1
  have hCl := h.2.2.1
  have hCh := h.2.1
  refine ⟨?_, rel_scr h hf ?_ ?_ ?_ ?_ ?_⟩
  · rw [eR, eR2, x1, y61, y62, y63, y64, y65]
    by_cases w : 0 ≤ x ∧ x < μ 1 11 ∧ 0 ≤ y ∧ y < μ 1 11
    · rw [if_pos w, if_pos w]
      have hS := hOk.1.1
      rw [hCl.1 (x + 8 * y) (by omega) (by omega), Int.add_comm x (8 * y)]
    · rw [if_neg w, if_neg w]
  · rw [eC]
    (repeat (first | exact sc_rfl | refine sc_uc ?_ (by unfold scN; omega) | refine sc_up ?_ (by unfold scN; omega)))
  · rw [eC]; try (funext i; simp [ot_up, ot_uc])
  · rw [eC]; exact hCh
  · rw [eQ]
    (repeat (first | exact fc_rfl | refine fc_uc ?_ (by omega) | refine fc_up ?_ (by omega)))
  · rw [eQ]
    (repeat (first | exact sq_rfl | refine sq_uc ?_ (by omega)))
theorem v_samples {μ μ1 μ2 : ot_M} {r1 r2 : Int} {a b x y : Int} (h : rel μ)  (hc : r1 = (if (0 ≤ a ∧ a < μ 1 12 ∧ 0 ≤ b ∧ b < μ 1 12 ∧ a ≠ b) ∧ (0 ≤ x ∧ x < μ 1 11 ∧ 0 ≤ y ∧ y < μ 1 11) then smp (μ 1 11) (μ 2) (μ 3) a b (x + 8 * y) else -1) ∧ ∃ f z, μ1 = ot_uc (ot_uc μ 38 f) 39 z ∧ gChd (μ 1 11) (μ 1 12) (μ 2) (μ 3) f z) (hq : r2 = (if (0 ≤ a ∧ a < μ1 60 2 ∧ 0 ≤ b ∧ b < μ1 60 2 ∧ a ≠ b) ∧ (0 ≤ x ∧ x < μ1 60 1 ∧ 0 ≤ y ∧ y < μ1 60 1) then smp (μ1 60 1) (μ1 61) (μ1 62) a b (8 * y + x) else -1) ∧ ∃ f, μ2 = ot_uc μ1 82 f) : r1 = r2 ∧ rel μ2 := by
  obtain ⟨eR, f1, z1, eC, hch⟩ := hc
  have hf : frQ μ μ1 := by
    rw [eC]
    (repeat (first | exact fq_rfl | refine fq_uc ?_ (by omega) | refine fq_up ?_ (by omega)))
  obtain ⟨⟨x0, x1, x2, x11, x23, x14, x17, x35, x36, x46⟩, ⟨y61, y62, y66, y67, y63, y65, y64, y69, y70, y68, y72, y71⟩, z74, z75, z76, z77, z78⟩ := crQ h hf
  obtain ⟨eR2, f, eQ⟩ := hq
  have hOk := h.1
  have hCl := h.2.2.1
  have hCh := h.2.1
  refine ⟨?_, rel_scr h hf ?_ ?_ ?_ ?_ ?_⟩
  · rw [eR, eR2, x1, x2, y61, y62, Int.add_comm x (8 * y)]
  · rw [eC]
    (repeat (first | exact sc_rfl | refine sc_uc ?_ (by unfold scN; omega) | refine sc_up ?_ (by unfold scN; omega)))
  · rw [eC]; try (funext i; simp [ot_up, ot_uc])
  · have e1 : μ1 38 = f1 := by rw [eC]; funext i; simp [ot_uc]
    have e2 : μ1 39 = z1 := by rw [eC]; funext i; simp [ot_uc]
    rw [e1, e2]; exact hch
  · rw [eQ]
    (repeat (first | exact fc_rfl | refine fc_uc ?_ (by omega) | refine fc_up ?_ (by omega)))
  · rw [eQ]
    (repeat (first | exact sq_rfl | refine sq_uc ?_ (by omega)))
theorem v_far {μ μ1 μ2 : ot_M} {r1 r2 : Int} {q : Int} (h : rel μ)  (hc : μ1 = μ ∧ r1 = (if 0 ≤ q ∧ q < 4 then farS (μ 5) (μ 4) (μ 34) q else -1)) (hq : r2 = (if 0 ≤ q ∧ q < 4 then farM (μ1 60 1) (μ1 67) (μ1 66) (dk (μ1 60 1) (μ1 61) (μ1 62) (μ1 64) (μ1 65) (μ1 63)) q else -1) ∧ ∃ f D, μ2 = ot_uc (ot_uc μ1 82 f) 83 D) : r1 = r2 ∧ rel μ2 := by
  obtain ⟨eC, eR⟩ := hc
  have hf : frQ μ μ1 := by
    rw [eC]
    (repeat (first | exact fq_rfl | refine fq_uc ?_ (by omega) | refine fq_up ?_ (by omega)))
  obtain ⟨⟨x0, x1, x2, x11, x23, x14, x17, x35, x36, x46⟩, ⟨y61, y62, y66, y67, y63, y65, y64, y69, y70, y68, y72, y71⟩, z74, z75, z76, z77, z78⟩ := crQ h hf
  obtain ⟨eR2, f, D, eQ⟩ := hq
  have hOk := h.1
  have hCl := h.2.2.1
  have hCh := h.2.1
  refine ⟨?_, rel_scr h hf ?_ ?_ ?_ ?_ ?_⟩
  · rw [eR, eR2, x1, y61, y62, y63, y64, y65, y66]
    by_cases w : 0 ≤ q ∧ q < 4
    · rw [if_pos w, if_pos w, ok_fM hOk y67 q w.1 w.2]
      exact farS_congr (fun k k1 k2 => ⟨rfl, rfl, hCl.1 k k1 k2⟩)
    · rw [if_neg w, if_neg w]
  · rw [eC]
    (repeat (first | exact sc_rfl | refine sc_uc ?_ (by unfold scN; omega) | refine sc_up ?_ (by unfold scN; omega)))
  · rw [eC]; try (funext i; simp [ot_up, ot_uc])
  · rw [eC]; exact hCh
  · rw [eQ]
    (repeat (first | exact fc_rfl | refine fc_uc ?_ (by omega) | refine fc_up ?_ (by omega)))
  · rw [eQ]
    (repeat (first | exact sq_rfl | refine sq_uc ?_ (by omega)))
theorem v_like {μ μ1 μ2 : ot_M} {r1 r2 : Int}  (h : rel μ)  (hc : μ1 = μ ∧ r1 = likS (farS (μ 5) (μ 4) (μ 34)) 3) (hq : r2 = likS (farM (μ1 60 1) (μ1 67) (μ1 66) (dk (μ1 60 1) (μ1 61) (μ1 62) (μ1 64) (μ1 65) (μ1 63))) 3 ∧ ∃ f D, μ2 = ot_uc (ot_uc μ1 82 f) 83 D) : r1 = r2 ∧ rel μ2 := by
  obtain ⟨eC, eR⟩ := hc
  have hf : frQ μ μ1 := by
    rw [eC]
    (repeat (first | exact fq_rfl | refine fq_uc ?_ (by omega) | refine fq_up ?_ (by omega)))
  obtain ⟨⟨x0, x1, x2, x11, x23, x14, x17, x35, x36, x46⟩, ⟨y61, y62, y66, y67, y63, y65, y64, y69, y70, y68, y72, y71⟩, z74, z75, z76, z77, z78⟩ := crQ h hf
  obtain ⟨eR2, f, D, eQ⟩ := hq
  have hOk := h.1
  have hCl := h.2.2.1
  have hCh := h.2.1
  refine ⟨?_, rel_scr h hf ?_ ?_ ?_ ?_ ?_⟩
  · rw [eR, eR2, x1, y61, y62, y63, y64, y65, y66]
    refine lik_eq ?_
    intro q q1 q2
    rw [ok_fM hOk y67 q q1 q2]
    exact farS_congr (fun k k1 k2 => ⟨rfl, rfl, (hCl.1 k k1 k2).symm⟩)
  · rw [eC]
    (repeat (first | exact sc_rfl | refine sc_uc ?_ (by unfold scN; omega) | refine sc_up ?_ (by unfold scN; omega)))
  · rw [eC]; try (funext i; simp [ot_up, ot_uc])
  · rw [eC]; exact hCh
  · rw [eQ]
    (repeat (first | exact fc_rfl | refine fc_uc ?_ (by omega) | refine fc_up ?_ (by omega)))
  · rw [eQ]
    (repeat (first | exact sq_rfl | refine sq_uc ?_ (by omega)))
theorem v_next {μ μ1 μ2 : ot_M} {r1 r2 : Int} {t pp w : Int} (h : rel μ)  (hc : eqx [38, 39, 36, 16, 40] μ μ1 ∧ gChd (μ 1 11) (μ 1 12) (μ 2) (μ 3) (μ1 38) (μ1 39) ∧ r1 = (if ((0 ≤ t ∧ t < 3) ∧ (0 ≤ pp ∧ pp < 4) ∧ 0 ≤ w ∧ w ≤ 1) then (if w = 0 then (nextS (μ 77) (μ 78) (μ 74) (μ 75) (μ 76) (μ 12 4) (μ 1 11) (μ 1 12) (μ 2) (μ 3) (μ 6) (μ 5) (μ 4) pp t (μ 8) (μ 7)).1 else (nextS (μ 77) (μ 78) (μ 74) (μ 75) (μ 76) (μ 12 4) (μ 1 11) (μ 1 12) (μ 2) (μ 3) (μ 6) (μ 5) (μ 4) pp t (μ 8) (μ 7)).2) else -1000000)) (hq : eqx [82, 83, 80, 81, 60] μ1 μ2 ∧ (∀ j, j ≠ 41 → μ2 60 j = μ1 60 j) ∧ r2 = (if ((0 ≤ t ∧ t < 3) ∧ (0 ≤ pp ∧ pp < 4) ∧ 0 ≤ w ∧ w ≤ 1) then (if w = 0 then (nextS (μ1 77) (μ1 78) (μ1 74) (μ1 75) (μ1 76) (μ1 60 23) (μ1 60 1) (μ1 60 2) (μ1 61) (μ1 62) (μ1 63) (fun k => μ1 67 k + 1) (μ1 66) pp t (μ1 64) (μ1 65)).1 else (nextS (μ1 77) (μ1 78) (μ1 74) (μ1 75) (μ1 76) (μ1 60 23) (μ1 60 1) (μ1 60 2) (μ1 61) (μ1 62) (μ1 63) (fun k => μ1 67 k + 1) (μ1 66) pp t (μ1 64) (μ1 65)).2) else -1000000)) : r1 = r2 ∧ rel μ2 := by
  obtain ⟨hx, hch, eR⟩ := hc
  have hf : frQ μ μ1 := fun k a b => hx k (by simp; omega)
  obtain ⟨⟨x0, x1, x2, x11, x23, x14, x17, x35, x36, x46⟩, ⟨y61, y62, y66, y67, y63, y65, y64, y69, y70, y68, y72, y71⟩, z74, z75, z76, z77, z78⟩ := crQ h hf
  obtain ⟨hx2, hj, eR2⟩ := hq
  have hOk := h.1
  refine ⟨?_, rel_scr h hf ?_ ?_ ?_ ?_ ?_⟩
  · rw [eR, eR2, x1, x2, x23, y61, y62, y63, y64, y65, y66, y67, z74, z75, z76, z77, z78]
  · exact fun k a b => hx k (by unfold relK at b; simp; omega)
  · exact hx 53 (by decide)
  · exact hch
  · exact fun k a => hx2 k (by simp; omega)
  · exact ⟨fun k a b => hx2 k (by unfold relK at b; simp; omega), fun i hi => hj i (by unfold relI at hi; omega)⟩
theorem v_worst {μ μ1 μ2 : ot_M} {r1 r2 : Int} {q w : Int} {g0 g2 : Int → Int → Int} {D0 : Int → Int} (h : rel μ) (hg0 : g0 = (fun t i => gainS (μ 5) (μ 4) (μ 34) (smp (μ 1 11) (μ 2) (μ 3) (μ 7 (120 * t + i)) (μ 7 (120 * t + i + 1))) q (-(μ 6 t)))) (hD0 : D0 = dk (μ1 60 1) (μ1 61) (μ1 62) (μ1 64) (μ1 65) (μ1 63)) (hg2 : g2 = (fun t i => gainS (fun k => μ1 67 k + 1) (μ1 66) D0 (smp (μ1 60 1) (μ1 61) (μ1 62) (μ1 65 (120 * t + i)) (μ1 65 (120 * t + i + 1))) q (-(μ1 63 t)))) (hc : r1 = (if 0 ≤ q ∧ q < 4 then (if (wAll g0 (μ 8) 3).1 = -1 then -1 else if w = 0 then (wAll g0 (μ 8) 3).1 else if w = 1 then (wAll g0 (μ 8) 3).2.1 else if w = 2 then (wAll g0 (μ 8) 3).2.2 else -1) else -1) ∧ ∃ f z s, gChd (μ 1 11) (μ 1 12) (μ 2) (μ 3) f z ∧ μ1 = skM μ f z s) (hq : r2 = (if 0 ≤ q ∧ q < 4 then (if (wAll g2 (μ1 64) 3).1 = -1 then -1 else if w = 0 then (wAll g2 (μ1 64) 3).1 else if w = 1 then (wAll g2 (μ1 64) 3).2.1 else if w = 2 then (wAll g2 (μ1 64) 3).2.2 else -1) else -1) ∧ ∃ f D, μ2 = ot_uc (ot_uc μ1 82 f) 83 D) : r1 = r2 ∧ rel μ2 := by
  obtain ⟨eR, f1, z1, s1, hch, eC⟩ := hc
  have hf : frQ μ μ1 := by
    rw [eC]; exact fun k a b => skM_o (by omega)
  obtain ⟨⟨x0, x1, x2, x11, x23, x14, x17, x35, x36, x46⟩, ⟨y61, y62, y66, y67, y63, y65, y64, y69, y70, y68, y72, y71⟩, z74, z75, z76, z77, z78⟩ := crQ h hf
  obtain ⟨eR2, f, D, eQ⟩ := hq
  have hOk := h.1
  have hCl := h.2.2.1
  have hCh := h.2.1
  refine ⟨?_, rel_scr h hf ?_ ?_ ?_ ?_ ?_⟩
  · have hgg : g0 = g2 := by
      rw [hg0, hg2, hD0]
      funext t i
      rw [x1, y61, y62, y63, y64, y65, y66, y67]
      exact gainS_cg (fun k k1 k2 => hCl.1 k k1 k2)
    rw [eR, eR2, y64, hgg]
  · rw [eC]; exact fun k a b => skM_o (by unfold relK at b; omega)
  · rw [eC]; exact skM_o (by decide)
  · rw [eC, skM_38, skM_39]; exact hch
  · rw [eQ]
    (repeat (first | exact fc_rfl | refine fc_uc ?_ (by omega) | refine fc_up ?_ (by omega)))
  · rw [eQ]
    (repeat (first | exact sq_rfl | refine sq_uc ?_ (by omega)))
theorem v_order {μ μ1 μ2 : ot_M} {r1 r2 : Int} {i : Int} {J J2 : Nat → Nat} {od od2 : Nat} (h : rel μ) (hJ : J = joN (nA (μ 9)) (nA (μ 10)) (μ 1 13).toNat) (ho : od = oddN (nA (μ 9)) (nA (μ 10)) (2 ^ (μ 1 13).toNat - 1) (μ 1 13).toNat) (hJ2 : J2 = joN (nA (μ1 69)) (nA (μ1 70)) (μ1 60 11).toNat) (ho2 : od2 = oddN (nA (μ1 69)) (nA (μ1 70)) (2 ^ (μ1 60 11).toNat - 1) (μ1 60 11).toNat) (hc : (∃ F G, μ1 = ot_up (ot_up (ot_up (ot_uc (ot_uc μ 42 F) 43 G) 41 4 ((knF J od 24).2.1 : Int)) 41 5 ((knF J od 24).2.2.2 : Int)) 41 6 ((knF J od 24).2.2.1 : Int)) ∧ r1 = (if ((knF J od 24).2.1 = 1 ∧ 0 ≤ i ∧ i ≤ μ 1 13) then ((wyN J (stA J od) (i).toNat).1 : Int) else -1)) (hq : μ2 = μ1 ∧ r2 = (if ((knF J2 od2 24).2.1 = 1 ∧ 0 ≤ i ∧ i ≤ μ1 60 11) then ((wyN J2 (stA J2 od2) i.toNat).1 : Int) else -1)) : r1 = r2 ∧ rel μ2 := by
  obtain ⟨⟨F, G, eC⟩, eR⟩ := hc
  have hf : frQ μ μ1 := by
    rw [eC]
    (repeat (first | exact fq_rfl | refine fq_uc ?_ (by omega) | refine fq_up ?_ (by omega)))
  obtain ⟨⟨x0, x1, x2, x11, x23, x14, x17, x35, x36, x46⟩, ⟨y61, y62, y66, y67, y63, y65, y64, y69, y70, y68, y72, y71⟩, z74, z75, z76, z77, z78⟩ := crQ h hf
  obtain ⟨eQ, eR2⟩ := hq
  have hOk := h.1
  have hCl := h.2.2.1
  have hCh := h.2.1
  refine ⟨?_, rel_scr h hf ?_ ?_ ?_ ?_ ?_⟩
  · have eJ : J2 = J := by rw [hJ2, hJ, x11, y69, y70]
    have eo : od2 = od := by rw [ho2, ho, x11, y69, y70]
    rw [eR, eR2, eJ, eo, x11]
  · rw [eC]
    (repeat (first | exact sc_rfl | refine sc_uc ?_ (by unfold scN; omega) | refine sc_up ?_ (by unfold scN; omega)))
  · rw [eC]; try (funext i; simp [ot_up, ot_uc])
  · rw [eC]; exact hCh
  · rw [eQ]
    (repeat (first | exact fc_rfl | refine fc_uc ?_ (by omega) | refine fc_up ?_ (by omega)))
  · rw [eQ]
    (repeat (first | exact sq_rfl | refine sq_uc ?_ (by omega)))
theorem v_thread {μ μ1 μ2 : ot_M} {r1 r2 : Int} {w : Int} {J J2 : Nat → Nat} {od od2 : Nat} (h : rel μ) (hJ : J = joN (nA (μ 9)) (nA (μ 10)) (μ 1 13).toNat) (ho : od = oddN (nA (μ 9)) (nA (μ 10)) (2 ^ (μ 1 13).toNat - 1) (μ 1 13).toNat) (hJ2 : J2 = joN (nA (μ1 69)) (nA (μ1 70)) (μ1 60 11).toNat) (ho2 : od2 = oddN (nA (μ1 69)) (nA (μ1 70)) (2 ^ (μ1 60 11).toNat - 1) (μ1 60 11).toNat) (hc : ∃ (ln2 : Nat) (F G F3 : Int → Int), (ln2 = 44 ∨ 88 ≤ ln2) ∧ μ1 = ot_uc (ot_up (ot_up (ot_up (ot_uc (ot_uc μ 42 F) 43 G) 41 4 ((knF J od 24).2.1 : Int)) 41 5 ((knF J od 24).2.2.2 : Int)) 41 6 ((knF J od 24).2.2.1 : Int)) ln2 F3 ∧ thS J od (μ 2) (μ 3) w r1) (hq : (∃ F G, μ2 = ot_uc (ot_uc μ1 85 G) 84 F) ∧ thS J2 od2 (μ1 61) (μ1 62) w r2) : r1 = r2 ∧ rel μ2 := by
  obtain ⟨ln2, F, G, F3, hln, eC, eR⟩ := hc
  have hf : frQ μ μ1 := by
    rw [eC]
    (repeat (first | exact fq_rfl | refine fq_uc ?_ (by omega) | refine fq_up ?_ (by omega)))
  obtain ⟨⟨x0, x1, x2, x11, x23, x14, x17, x35, x36, x46⟩, ⟨y61, y62, y66, y67, y63, y65, y64, y69, y70, y68, y72, y71⟩, z74, z75, z76, z77, z78⟩ := crQ h hf
  obtain ⟨⟨F2, G2, eQ⟩, eR2⟩ := hq
  have hOk := h.1
  have hCl := h.2.2.1
  have hCh := h.2.1
  refine ⟨?_, rel_scr h hf ?_ ?_ ?_ ?_ ?_⟩
  · have eJ : J2 = J := by rw [hJ2, hJ, x11, y69, y70]
    have eo : od2 = od := by rw [ho2, ho, x11, y69, y70]
    rw [eJ, eo, y61, y62] at eR2
    exact thS_one eR eR2
  · rw [eC]
    (repeat (first | exact sc_rfl | refine sc_uc ?_ (by unfold scN; omega) | refine sc_up ?_ (by unfold scN; omega)))
  · have hne : (53 : Nat) ≠ ln2 := by omega
    rw [eC]; funext i; simp [ot_up, ot_uc, hne]
  · have h38 : (38 : Nat) ≠ ln2 := by omega
    have h39 : (39 : Nat) ≠ ln2 := by omega
    have e1 : μ1 38 = μ 38 := by rw [eC]; funext i; simp [ot_up, ot_uc, h38]
    have e2 : μ1 39 = μ 39 := by rw [eC]; funext i; simp [ot_up, ot_uc, h39]
    rw [e1, e2]; exact hCh
  · rw [eQ]
    (repeat (first | exact fc_rfl | refine fc_uc ?_ (by omega) | refine fc_up ?_ (by omega)))
  · rw [eQ]
    (repeat (first | exact sq_rfl | refine sq_uc ?_ (by omega)))
theorem v_back {μ μ1 μ2 : ot_M} {r1 r2 : Int} {w : Int} {dl dl2 : Int → Int → Int} (h : rel μ) (hdl : dl = (fun x k => dkL (μ 1 11) (μ 2) (μ 3) (μ 9) (μ 10) (μ 1 13).toNat x k)) (hdl2 : dl2 = (fun x k => dkL (μ1 60 1) (μ1 61) (μ1 62) (μ1 69) (μ1 70) (μ1 60 11).toNat x k)) (hc : eqx [38, 39, 45, 46] μ μ1 ∧ gChd (μ 1 11) (μ 1 12) (μ 2) (μ 3) (μ1 38) (μ1 39) ∧ r1 = (if (μ 1 13 ≤ 12 ∧ 0 ≤ w ∧ w ≤ 2) then (if w = 0 then (bkF (vlS (μ 11) dl) 0 (2 ^ (μ 1 13).toNat) (0, -1, 0)).1 else if w = 1 then (bkF (vlS (μ 11) dl) 0 (2 ^ (μ 1 13).toNat) (0, -1, 0)).2.1 else (bkF (vlS (μ 11) dl) 0 (2 ^ (μ 1 13).toNat) (0, -1, 0)).2.2) else -2)) (hq : (∃ f D, μ2 = ot_uc (ot_uc μ1 82 f) 83 D) ∧ r2 = (if (μ1 60 11 ≤ 12 ∧ 0 ≤ w ∧ w ≤ 2) then (if w = 0 then (bkF (vlS (fun k => μ1 68 k - 1) dl2) 0 (2 ^ (μ1 60 11).toNat) (0, -1, 0)).1 else if w = 1 then (bkF (vlS (fun k => μ1 68 k - 1) dl2) 0 (2 ^ (μ1 60 11).toNat) (0, -1, 0)).2.1 else (bkF (vlS (fun k => μ1 68 k - 1) dl2) 0 (2 ^ (μ1 60 11).toNat) (0, -1, 0)).2.2) else -2)) : r1 = r2 ∧ rel μ2 := by
  obtain ⟨hx, hch, eR⟩ := hc
  have hf : frQ μ μ1 := by
    exact fun k a b => hx k (by simp; omega)
  obtain ⟨⟨x0, x1, x2, x11, x23, x14, x17, x35, x36, x46⟩, ⟨y61, y62, y66, y67, y63, y65, y64, y69, y70, y68, y72, y71⟩, z74, z75, z76, z77, z78⟩ := crQ h hf
  obtain ⟨⟨f, D, eQ⟩, eR2⟩ := hq
  have hOk := h.1
  have hCl := h.2.2.1
  have hCh := h.2.1
  refine ⟨?_, rel_scr h hf ?_ ?_ ?_ ?_ ?_⟩
  · have ed : dl2 = dl := by rw [hdl2, hdl, x1, x11, y61, y62, y69, y70]
    rw [eR, eR2, ed, x11, y68]
  · exact fun k a b => hx k (by unfold relK at b; simp; omega)
  · exact hx 53 (by decide)
  · exact hch
  · rw [eQ]
    (repeat (first | exact fc_rfl | refine fc_uc ?_ (by omega) | refine fc_up ?_ (by omega)))
  · rw [eQ]
    (repeat (first | exact sq_rfl | refine sq_uc ?_ (by omega)))
theorem v_rule {μ μ1 μ2 : ot_M} {r1 r2 : Int} {k s0 w : Int} (h : rel μ)  (hc : (∃ F y, μ1 = ot_up (ot_uc μ 48 F) 47 3 y) ∧ (((0 < μ 1 12 ∧ 0 ≤ k ∧ k ≤ 99 ∧ 0 ≤ s0 ∧ s0 ≤ 99) ∧ w = 0 ∧ r1 = pairS (fun a b => if eP k s0 (μ 1 12) (μ 1 12) a b then 1 else 0) (μ 1 12).toNat) ∨ ((0 < μ 1 12 ∧ 0 ≤ k ∧ k ≤ 99 ∧ 0 ≤ s0 ∧ s0 ≤ 99) ∧ w = 1 ∧ lstT k s0 (μ 1 12) r1) ∨ (¬ ((0 < μ 1 12 ∧ 0 ≤ k ∧ k ≤ 99 ∧ 0 ≤ s0 ∧ s0 ≤ 99) ∧ 0 ≤ w ∧ w ≤ 1) ∧ r1 = -1))) (hq : (∃ F, μ2 = ot_uc μ1 86 F) ∧ (((0 < μ1 60 2 ∧ 0 ≤ k ∧ k ≤ 99 ∧ 0 ≤ s0 ∧ s0 ≤ 99) ∧ w = 0 ∧ r2 = pairS (fun a b => if eP k s0 (μ1 60 2) (μ1 60 2) a b then 1 else 0) (μ1 60 2).toNat) ∨ ((0 < μ1 60 2 ∧ 0 ≤ k ∧ k ≤ 99 ∧ 0 ≤ s0 ∧ s0 ≤ 99) ∧ w = 1 ∧ lstT k s0 (μ1 60 2) r2) ∨ (¬ ((0 < μ1 60 2 ∧ 0 ≤ k ∧ k ≤ 99 ∧ 0 ≤ s0 ∧ s0 ≤ 99) ∧ 0 ≤ w ∧ w ≤ 1) ∧ r2 = -1))) : r1 = r2 ∧ rel μ2 := by
  obtain ⟨⟨F, y1, eC⟩, eR⟩ := hc
  have hf : frQ μ μ1 := by
    rw [eC]
    (repeat (first | exact fq_rfl | refine fq_uc ?_ (by omega) | refine fq_up ?_ (by omega)))
  obtain ⟨⟨x0, x1, x2, x11, x23, x14, x17, x35, x36, x46⟩, ⟨y61, y62, y66, y67, y63, y65, y64, y69, y70, y68, y72, y71⟩, z74, z75, z76, z77, z78⟩ := crQ h hf
  obtain ⟨⟨F2, eQ⟩, eR2⟩ := hq
  have hOk := h.1
  have hCl := h.2.2.1
  have hCh := h.2.1
  refine ⟨?_, rel_scr h hf ?_ ?_ ?_ ?_ ?_⟩
  · rw [x2] at eR2
    rcases eR with ⟨a1, a2, a3⟩ | ⟨a1, a2, a3⟩ | ⟨a1, a3⟩
    · rcases eR2 with ⟨b1, b2, b3⟩ | ⟨b1, b2, b3⟩ | ⟨b1, b3⟩
      · rw [a3, b3]
      · omega
      · exact absurd ⟨a1, by omega, by omega⟩ b1
    · rcases eR2 with ⟨b1, b2, b3⟩ | ⟨b1, b2, b3⟩ | ⟨b1, b3⟩
      · omega
      · exact lst_one a3 b3
      · exact absurd ⟨a1, by omega, by omega⟩ b1
    · rcases eR2 with ⟨b1, b2, b3⟩ | ⟨b1, b2, b3⟩ | ⟨b1, b3⟩
      · exact absurd ⟨b1, by omega, by omega⟩ a1
      · exact absurd ⟨b1, by omega, by omega⟩ a1
      · rw [a3, b3]
  · rw [eC]
    (repeat (first | exact sc_rfl | refine sc_uc ?_ (by unfold scN; omega) | refine sc_up ?_ (by unfold scN; omega)))
  · rw [eC]; try (funext i; simp [ot_up, ot_uc])
  · have e1 : μ1 38 = μ 38 := by rw [eC]; funext i; simp [ot_up, ot_uc]
    have e2 : μ1 39 = μ 39 := by rw [eC]; funext i; simp [ot_up, ot_uc]
    rw [e1, e2]; exact hCh
  · rw [eQ]
    (repeat (first | exact fc_rfl | refine fc_uc ?_ (by omega) | refine fc_up ?_ (by omega)))
  · rw [eQ]
    (repeat (first | exact sq_rfl | refine sq_uc ?_ (by omega)))
theorem v_drawn {μ μ1 μ2 : ot_M} {r1 r2 : Int} {k s0 x y : Int} (h : rel μ)  (hc : (∃ F y f z, μ1 = ot_uc (ot_uc (ot_up (ot_uc μ 48 F) 47 3 y) 38 f) 39 z ∧ gChd (μ 1 11) (μ 1 12) (μ 2) (μ 3) f z) ∧ (((0 < μ 1 12 ∧ 0 ≤ k ∧ k ≤ 99 ∧ 0 ≤ s0 ∧ s0 ≤ 99) ∧ (0 ≤ x ∧ x < μ 1 11 ∧ 0 ≤ y ∧ y < μ 1 11) ∧ r1 = pairS (fun a b => if eP k s0 (μ 1 12) (μ 1 12) a b then smp (μ 1 11) (μ 2) (μ 3) a b (x + 8 * y) else 0) (μ 1 12).toNat) ∨ (¬ ((0 < μ 1 12 ∧ 0 ≤ k ∧ k ≤ 99 ∧ 0 ≤ s0 ∧ s0 ≤ 99) ∧ (0 ≤ x ∧ x < μ 1 11 ∧ 0 ≤ y ∧ y < μ 1 11)) ∧ r1 = -1))) (hq : (∃ F f D, μ2 = ot_uc (ot_uc (ot_uc μ1 86 F) 82 f) 83 D) ∧ (((0 < μ1 60 2 ∧ 0 ≤ k ∧ k ≤ 99 ∧ 0 ≤ s0 ∧ s0 ≤ 99) ∧ (0 ≤ x ∧ x < μ1 60 1 ∧ 0 ≤ y ∧ y < μ1 60 1) ∧ r2 = pairS (fun a b => if eP k s0 (μ1 60 2) (μ1 60 2) a b then smp (μ1 60 1) (μ1 61) (μ1 62) a b (8 * y + x) else 0) (μ1 60 2).toNat) ∨ (¬ ((0 < μ1 60 2 ∧ 0 ≤ k ∧ k ≤ 99 ∧ 0 ≤ s0 ∧ s0 ≤ 99) ∧ (0 ≤ x ∧ x < μ1 60 1 ∧ 0 ≤ y ∧ y < μ1 60 1)) ∧ r2 = -1))) : r1 = r2 ∧ rel μ2 := by
  obtain ⟨⟨F, y1, f1, z1, eC, hch⟩, eR⟩ := hc
  have hf : frQ μ μ1 := by
    rw [eC]
    (repeat (first | exact fq_rfl | refine fq_uc ?_ (by omega) | refine fq_up ?_ (by omega)))
  obtain ⟨⟨x0, x1, x2, x11, x23, x14, x17, x35, x36, x46⟩, ⟨y61, y62, y66, y67, y63, y65, y64, y69, y70, y68, y72, y71⟩, z74, z75, z76, z77, z78⟩ := crQ h hf
  obtain ⟨⟨F2, f2, D2, eQ⟩, eR2⟩ := hq
  have hOk := h.1
  have hCl := h.2.2.1
  have hCh := h.2.1
  refine ⟨?_, rel_scr h hf ?_ ?_ ?_ ?_ ?_⟩
  · rw [x1, x2, y61, y62, Int.add_comm (8 * y) x] at eR2
    rcases eR with ⟨a1, a2, a3⟩ | ⟨a1, a3⟩
    · rcases eR2 with ⟨b1, b2, b3⟩ | ⟨b1, b3⟩
      · rw [a3, b3]
      · exact absurd ⟨a1, a2⟩ b1
    · rcases eR2 with ⟨b1, b2, b3⟩ | ⟨b1, b3⟩
      · exact absurd ⟨b1, b2⟩ a1
      · rw [a3, b3]
  · rw [eC]
    (repeat (first | exact sc_rfl | refine sc_uc ?_ (by unfold scN; omega) | refine sc_up ?_ (by unfold scN; omega)))
  · rw [eC]; try (funext i; simp [ot_up, ot_uc])
  · have e1 : μ1 38 = f1 := by rw [eC]; funext i; simp [ot_up, ot_uc]
    have e2 : μ1 39 = z1 := by rw [eC]; funext i; simp [ot_up, ot_uc]
    rw [e1, e2]; exact hch
  · rw [eQ]
    (repeat (first | exact fc_rfl | refine fc_uc ?_ (by omega) | refine fc_up ?_ (by omega)))
  · rw [eQ]
    (repeat (first | exact sq_rfl | refine sq_uc ?_ (by omega)))

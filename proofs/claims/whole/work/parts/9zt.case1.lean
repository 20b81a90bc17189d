theorem fr_fault {μ μ1 : ot_M} {r1 : Int} {w : Int}  (hc : μ1 = μ ∧ r1 = (if w = 0 then μ 0 11 else if w = 1 then μ 0 12 else -1)) : frQ μ μ1 := by
  obtain ⟨e, _⟩ := hc
  rw [e]
  (repeat (first | exact fq_rfl | refine fq_uc ?_ (by omega) | refine fq_up ?_ (by omega)))
theorem fr_wound {μ μ1 : ot_M} {r1 : Int} {t i : Int}  (hc : μ1 = μ ∧ r1 = (if 0 ≤ t ∧ t < 3 then (if i = -1 then μ 8 t else if 0 ≤ i ∧ i < μ 8 t then μ 7 (t * 120 + i) else -1) else -1)) : frQ μ μ1 := by
  obtain ⟨e, _⟩ := hc
  rw [e]
  (repeat (first | exact fq_rfl | refine fq_uc ?_ (by omega) | refine fq_up ?_ (by omega)))
theorem fr_look {μ μ1 : ot_M} {r1 : Int} {w : Int}  (hc : μ1 = μ ∧ r1 = lookS w (μ 1 11) (μ 1 12) (μ 1 13) (μ 12 4) (μ 0 14) (lenA (μ 2) (μ 3) (μ 8) (μ 7)) (μ 6) (μ 2) (μ 3)) : frQ μ μ1 := by
  obtain ⟨e, _⟩ := hc
  rw [e]
  (repeat (first | exact fq_rfl | refine fq_uc ?_ (by omega) | refine fq_up ?_ (by omega)))
theorem fr_dark {μ μ1 : ot_M} {r1 : Int} {x y : Int}  (hc : μ1 = μ ∧ r1 = (if 0 ≤ x ∧ x < μ 1 11 ∧ 0 ≤ y ∧ y < μ 1 11 then μ 34 (x + 8 * y) else -1)) : frQ μ μ1 := by
  obtain ⟨e, _⟩ := hc
  rw [e]
  (repeat (first | exact fq_rfl | refine fq_uc ?_ (by omega) | refine fq_up ?_ (by omega)))
theorem fr_far {μ μ1 : ot_M} {r1 : Int} {q : Int}  (hc : μ1 = μ ∧ r1 = (if 0 ≤ q ∧ q < 4 then farS (μ 5) (μ 4) (μ 34) q else -1)) : frQ μ μ1 := by
  obtain ⟨e, _⟩ := hc
  rw [e]
  (repeat (first | exact fq_rfl | refine fq_uc ?_ (by omega) | refine fq_up ?_ (by omega)))
theorem fr_like {μ μ1 : ot_M} {r1 : Int}   (hc : μ1 = μ ∧ r1 = likS (farS (μ 5) (μ 4) (μ 34)) 3) : frQ μ μ1 := by
  obtain ⟨e, _⟩ := hc
  rw [e]
  (repeat (first | exact fq_rfl | refine fq_uc ?_ (by omega) | refine fq_up ?_ (by omega)))
theorem fr_clear {μ μ1 : ot_M} {r1 : Int}   (hc : μ1 = ot_up μ 1 13 0 ∧ r1 = μ 1 13) : frQ μ μ1 := by
  obtain ⟨e, _⟩ := hc
  rw [e]
  (repeat (first | exact fq_rfl | refine fq_uc ?_ (by omega) | refine fq_up ?_ (by omega)))
theorem fr_samples {μ μ1 : ot_M} {r1 : Int} {a b x y : Int}  (hc : r1 = (if (0 ≤ a ∧ a < μ 1 12 ∧ 0 ≤ b ∧ b < μ 1 12 ∧ a ≠ b) ∧ (0 ≤ x ∧ x < μ 1 11 ∧ 0 ≤ y ∧ y < μ 1 11) then smp (μ 1 11) (μ 2) (μ 3) a b (x + 8 * y) else -1) ∧ ∃ f z, μ1 = ot_uc (ot_uc μ 38 f) 39 z ∧ gChd (μ 1 11) (μ 1 12) (μ 2) (μ 3) f z) : frQ μ μ1 := by
  obtain ⟨_, f, z, e, _⟩ := hc
  rw [e]
  (repeat (first | exact fq_rfl | refine fq_uc ?_ (by omega) | refine fq_up ?_ (by omega)))
theorem fr_next {μ μ1 : ot_M} {r1 : Int} {op arg lw lf lt : Int → Int} {t pp w : Int}  (hc : eqx [38, 39, 36, 16, 40] μ μ1 ∧ gChd (μ 1 11) (μ 1 12) (μ 2) (μ 3) (μ1 38) (μ1 39) ∧ r1 = (if ((0 ≤ t ∧ t < 3) ∧ (0 ≤ pp ∧ pp < 4) ∧ 0 ≤ w ∧ w ≤ 1) then (if w = 0 then (nextS op arg lw lf lt (μ 12 4) (μ 1 11) (μ 1 12) (μ 2) (μ 3) (μ 6) (μ 5) (μ 4) pp t (μ 8) (μ 7)).1 else (nextS op arg lw lf lt (μ 12 4) (μ 1 11) (μ 1 12) (μ 2) (μ 3) (μ 6) (μ 5) (μ 4) pp t (μ 8) (μ 7)).2) else -1000000)) : frQ μ μ1 := by
  obtain ⟨hx, _⟩ := hc
  exact fun k a b => hx k (by simp; omega)
theorem fr_back {μ μ1 : ot_M} {r1 : Int} {w : Int} {dl : Int → Int → Int}  (hc : eqx [38, 39, 45, 46] μ μ1 ∧ gChd (μ 1 11) (μ 1 12) (μ 2) (μ 3) (μ1 38) (μ1 39) ∧ r1 = (if (μ 1 13 ≤ 12 ∧ 0 ≤ w ∧ w ≤ 2) then (if w = 0 then (bkF (vlS (μ 11) dl) 0 (2 ^ (μ 1 13).toNat) (0, -1, 0)).1 else if w = 1 then (bkF (vlS (μ 11) dl) 0 (2 ^ (μ 1 13).toNat) (0, -1, 0)).2.1 else (bkF (vlS (μ 11) dl) 0 (2 ^ (μ 1 13).toNat) (0, -1, 0)).2.2) else -2)) : frQ μ μ1 := by
  obtain ⟨hx, _⟩ := hc
  exact fun k a b => hx k (by simp; omega)
theorem fr_worst {μ μ1 : ot_M} {r1 : Int} {q w : Int} {g0 : Int → Int → Int}  (hc : r1 = (if 0 ≤ q ∧ q < 4 then (if (wAll g0 (μ 8) 3).1 = -1 then -1 else if w = 0 then (wAll g0 (μ 8) 3).1 else if w = 1 then (wAll g0 (μ 8) 3).2.1 else if w = 2 then (wAll g0 (μ 8) 3).2.2 else -1) else -1) ∧ ∃ f z s, gChd (μ 1 11) (μ 1 12) (μ 2) (μ 3) f z ∧ μ1 = skM μ f z s) : frQ μ μ1 := by
  obtain ⟨_, f, z, s, _, e⟩ := hc
  rw [e]; exact fun k a b => skM_o (by omega)
theorem fr_order {μ μ1 : ot_M} {r1 : Int} {i : Int} {J : Nat → Nat} {od : Nat}  (hc : (∃ F G, μ1 = ot_up (ot_up (ot_up (ot_uc (ot_uc μ 42 F) 43 G) 41 4 ((knF J od 24).2.1 : Int)) 41 5 ((knF J od 24).2.2.2 : Int)) 41 6 ((knF J od 24).2.2.1 : Int)) ∧ r1 = (if ((knF J od 24).2.1 = 1 ∧ 0 ≤ i ∧ i ≤ μ 1 13) then ((wyN J (stA J od) (i).toNat).1 : Int) else -1)) : frQ μ μ1 := by
  obtain ⟨⟨F, G, e⟩, _⟩ := hc
  rw [e]
  (repeat (first | exact fq_rfl | refine fq_uc ?_ (by omega) | refine fq_up ?_ (by omega)))
theorem fr_rule {μ μ1 : ot_M} {r1 : Int} {k s0 w : Int}  (hc : (∃ F y, μ1 = ot_up (ot_uc μ 48 F) 47 3 y) ∧ (((0 < μ 1 12 ∧ 0 ≤ k ∧ k ≤ 99 ∧ 0 ≤ s0 ∧ s0 ≤ 99) ∧ w = 0 ∧ r1 = pairS (fun a b => if eP k s0 (μ 1 12) (μ 1 12) a b then 1 else 0) (μ 1 12).toNat) ∨ ((0 < μ 1 12 ∧ 0 ≤ k ∧ k ≤ 99 ∧ 0 ≤ s0 ∧ s0 ≤ 99) ∧ w = 1 ∧ lstT k s0 (μ 1 12) r1) ∨ (¬ ((0 < μ 1 12 ∧ 0 ≤ k ∧ k ≤ 99 ∧ 0 ≤ s0 ∧ s0 ≤ 99) ∧ 0 ≤ w ∧ w ≤ 1) ∧ r1 = -1))) : frQ μ μ1 := by
  obtain ⟨⟨F, y, e⟩, _⟩ := hc
  rw [e]
  (repeat (first | exact fq_rfl | refine fq_uc ?_ (by omega) | refine fq_up ?_ (by omega)))
theorem fr_drawn {μ μ1 : ot_M} {r1 : Int} {k s0 x y : Int}  (hc : (∃ F y f z, μ1 = ot_uc (ot_uc (ot_up (ot_uc μ 48 F) 47 3 y) 38 f) 39 z ∧ gChd (μ 1 11) (μ 1 12) (μ 2) (μ 3) f z) ∧ (((0 < μ 1 12 ∧ 0 ≤ k ∧ k ≤ 99 ∧ 0 ≤ s0 ∧ s0 ≤ 99) ∧ (0 ≤ x ∧ x < μ 1 11 ∧ 0 ≤ y ∧ y < μ 1 11) ∧ r1 = pairS (fun a b => if eP k s0 (μ 1 12) (μ 1 12) a b then smp (μ 1 11) (μ 2) (μ 3) a b (x + 8 * y) else 0) (μ 1 12).toNat) ∨ (¬ ((0 < μ 1 12 ∧ 0 ≤ k ∧ k ≤ 99 ∧ 0 ≤ s0 ∧ s0 ≤ 99) ∧ (0 ≤ x ∧ x < μ 1 11 ∧ 0 ≤ y ∧ y < μ 1 11)) ∧ r1 = -1))) : frQ μ μ1 := by
  obtain ⟨⟨F, y, f, z, e, _⟩, _⟩ := hc
  rw [e]
  (repeat (first | exact fq_rfl | refine fq_uc ?_ (by omega) | refine fq_up ?_ (by omega)))
theorem fr_want {μ μ1 : ot_M} {r1 : Int} {p0 x y v : Int}  (hc : ((((0 ≤ p0 ∧ p0 < 4) ∧ (0 ≤ x ∧ x < μ 1 11 ∧ 0 ≤ y ∧ y < μ 1 11) ∧ 0 ≤ v ∧ v ≤ 999) ∧ r1 = 1 ∧ μ1 = ot_up μ 4 (p0 * 64 + (x + 8 * y)) v) ∨ (¬ ((0 ≤ p0 ∧ p0 < 4) ∧ (0 ≤ x ∧ x < μ 1 11 ∧ 0 ≤ y ∧ y < μ 1 11) ∧ 0 ≤ v ∧ v ≤ 999) ∧ r1 = 0 ∧ μ1 = μ))) : frQ μ μ1 := by
  rcases hc with ⟨_, _, e⟩ | ⟨_, _, e⟩
  · rw [e]
    (repeat (first | exact fq_rfl | refine fq_uc ?_ (by omega) | refine fq_up ?_ (by omega)))
  · rw [e]; exact fq_rfl
theorem fr_weight {μ μ1 : ot_M} {r1 : Int} {x y v : Int}  (hc : ((((0 ≤ x ∧ x < μ 1 11 ∧ 0 ≤ y ∧ y < μ 1 11) ∧ 0 ≤ v ∧ v ≤ 9) ∧ r1 = 1 ∧ μ1 = ot_up μ 5 (x + 8 * y) v) ∨ (¬ ((0 ≤ x ∧ x < μ 1 11 ∧ 0 ≤ y ∧ y < μ 1 11) ∧ 0 ≤ v ∧ v ≤ 9) ∧ r1 = 0 ∧ μ1 = μ))) : frQ μ μ1 := by
  rcases hc with ⟨_, _, e⟩ | ⟨_, _, e⟩
  · rw [e]
    (repeat (first | exact fq_rfl | refine fq_uc ?_ (by omega) | refine fq_up ?_ (by omega)))
  · rw [e]; exact fq_rfl
theorem fr_tell {μ μ1 : ot_M} {r1 : Int} {x y v : Int}  (hc : ((((0 ≤ x ∧ x < μ 1 11 ∧ 0 ≤ y ∧ y < μ 1 11) ∧ -1 ≤ v ∧ v ≤ 9999) ∧ r1 = 1 ∧ μ1 = ot_up μ 11 (x + 8 * y) v) ∨ (¬ ((0 ≤ x ∧ x < μ 1 11 ∧ 0 ≤ y ∧ y < μ 1 11) ∧ -1 ≤ v ∧ v ≤ 9999) ∧ r1 = 0 ∧ μ1 = μ))) : frQ μ μ1 := by
  rcases hc with ⟨_, _, e⟩ | ⟨_, _, e⟩
  · rw [e]
    (repeat (first | exact fq_rfl | refine fq_uc ?_ (by omega) | refine fq_up ?_ (by omega)))
  · rw [e]; exact fq_rfl
theorem fr_line {μ μ1 : ot_M} {r1 : Int} {a b : Int}  (hc : ((((0 ≤ a ∧ a < μ 1 12 ∧ 0 ≤ b ∧ b < μ 1 12 ∧ a ≠ b ∧ μ 1 13 < 20) ∧ ∀ i, 0 ≤ i → i < μ 1 13 → ¬ (μ 9 i = a ∧ μ 10 i = b ∨ μ 9 i = b ∧ μ 10 i = a)) ∧ r1 = μ 1 13 ∧ μ1 = ot_up (ot_up (ot_up μ 9 (μ 1 13) a) 10 (μ 1 13) b) 1 13 (μ 1 13 + 1)) ∨ (¬ ((0 ≤ a ∧ a < μ 1 12 ∧ 0 ≤ b ∧ b < μ 1 12 ∧ a ≠ b ∧ μ 1 13 < 20) ∧ ∀ i, 0 ≤ i → i < μ 1 13 → ¬ (μ 9 i = a ∧ μ 10 i = b ∨ μ 9 i = b ∧ μ 10 i = a)) ∧ r1 = -1 ∧ μ1 = μ))) : frQ μ μ1 := by
  rcases hc with ⟨_, _, e⟩ | ⟨_, _, e⟩
  · rw [e]
    (repeat (first | exact fq_rfl | refine fq_uc ?_ (by omega) | refine fq_up ?_ (by omega)))
  · rw [e]; exact fq_rfl
theorem fr_feed {μ μ1 : ot_M} {r1 : Int} {a b c d e : Int}  (hc : ((μ 0 10 ≤ 380 ∧ r1 = μ 0 10 + 20 ∧ μ1 = ot_up (ot_uc μ 58 (feedB (μ 0 10) a b c d e (μ 58))) 0 10 (μ 0 10 + 20)) ∨ (380 < μ 0 10 ∧ r1 = -1 ∧ μ1 = μ))) : frQ μ μ1 := by
  rcases hc with ⟨_, _, e⟩ | ⟨_, _, e⟩
  · rw [e]
    (repeat (first | exact fq_rfl | refine fq_uc ?_ (by omega) | refine fq_up ?_ (by omega)))
  · rw [e]; exact fq_rfl
theorem fr_pin {μ μ1 : ot_M} {r1 : Int} {x y : Int}  (hc : ((((0 ≤ x ∧ x ≤ μ 1 11 ∧ 0 ≤ y ∧ y ≤ μ 1 11 ∧ μ 1 12 < 24) ∧ ∀ i, 0 ≤ i → i < μ 1 12 → ¬ (μ 2 i = x ∧ μ 3 i = y)) ∧ r1 = μ 1 12 ∧ μ1 = ot_up (ot_up (ot_up (ot_up μ 2 (μ 1 12) x) 3 (μ 1 12) y) 1 12 (μ 1 12 + 1)) 0 14 0) ∨ (¬ ((0 ≤ x ∧ x ≤ μ 1 11 ∧ 0 ≤ y ∧ y ≤ μ 1 11 ∧ μ 1 12 < 24) ∧ ∀ i, 0 ≤ i → i < μ 1 12 → ¬ (μ 2 i = x ∧ μ 3 i = y)) ∧ r1 = -1 ∧ μ1 = μ))) : frQ μ μ1 := by
  rcases hc with ⟨_, _, e⟩ | ⟨_, _, e⟩
  · rw [e]
    (repeat (first | exact fq_rfl | refine fq_uc ?_ (by omega) | refine fq_up ?_ (by omega)))
  · rw [e]; exact fq_rfl
theorem fr_end {μ μ1 : ot_M} {r1 : Int} {n : Int}  (hc : ((0 ≤ n ∧ n ≤ μ 0 10 ∧ r1 = 1 ∧ μ1 = ot_up μ 0 10 n) ∨ (¬ (0 ≤ n ∧ n ≤ μ 0 10) ∧ r1 = 0 ∧ μ1 = μ))) : frQ μ μ1 := by
  rcases hc with ⟨_, _, _, e⟩ | ⟨_, _, e⟩
  · rw [e]
    (repeat (first | exact fq_rfl | refine fq_uc ?_ (by omega) | refine fq_up ?_ (by omega)))
  · rw [e]; exact fq_rfl
theorem fr_shade {μ μ1 : ot_M} {r1 : Int} {t v : Int}  (hc : ((((0 ≤ t ∧ t < 3) ∧ 0 ≤ v ∧ v ≤ 9) ∧ r1 = 1 ∧ ∃ f z, gChd (μ 1 11) (μ 1 12) (μ 2) (μ 3) f z ∧ μ1 = ot_up (ot_uc (ot_uc (ot_uc (ot_uc (ot_uc μ 6 (up1 (μ 6) t v)) 38 f) 39 z) 34 (wr 64 (μ 34) (dk (μ 1 11) (μ 2) (μ 3) (μ 8) (μ 7) (up1 (μ 6) t v)))) 35 (wr 276 (μ 35) (usC (μ 8) (μ 7)))) 0 14 0) ∨ (¬ ((0 ≤ t ∧ t < 3) ∧ 0 ≤ v ∧ v ≤ 9) ∧ r1 = 0 ∧ μ1 = μ))) : frQ μ μ1 := by
  rcases hc with ⟨_, _, f, z, _, e⟩ | ⟨_, _, e⟩
  · rw [e]
    (repeat (first | exact fq_rfl | refine fq_uc ?_ (by omega) | refine fq_up ?_ (by omega)))
  · rw [e]; exact fq_rfl
theorem fr_board {μ μ1 : ot_M} {r1 : Int} {v : Int}  (hc : (((2 ≤ v ∧ v ≤ 8) ∧ r1 = 1 ∧ ∃ f z, gChd v 0 ((boardM μ v) 2) ((boardM μ v) 3) f z ∧ μ1 = ot_up (ot_uc (ot_uc (ot_uc (ot_uc (boardM μ v) 38 f) 39 z) 34 (wr 64 (μ 34) (dk ((boardM μ v) 1 11) ((boardM μ v) 2) ((boardM μ v) 3) ((boardM μ v) 8) ((boardM μ v) 7) ((boardM μ v) 6)))) 35 (wr 276 (μ 35) (usC ((boardM μ v) 8) ((boardM μ v) 7)))) 0 14 0) ∨ (¬ (2 ≤ v ∧ v ≤ 8) ∧ r1 = 0 ∧ μ1 = μ))) : frQ μ μ1 := by
  rcases hc with ⟨_, _, f, z, _, e⟩ | ⟨_, _, e⟩
  · rw [e]
    (repeat (first | exact (fun k a b => boardM_o (by omega)) | refine fq_uc ?_ (by omega) | refine fq_up ?_ (by omega)))
  · rw [e]; exact fq_rfl
theorem fr_rub {μ μ1 : ot_M} {r1 : Int} {t n : Int}  (hc : (((0 ≤ t ∧ t < 3 ∧ 0 ≤ n ∧ n ≤ μ 8 t) ∧ r1 = μ 8 t - n ∧ ∃ f z D U, gChd (μ 1 11) (μ 1 12) (μ 2) (μ 3) f z ∧ gClo (μ 1 11) (μ 2) (μ 3) (up1 (μ 8) t (μ 8 t - n)) (μ 7) (μ 6) D U ∧ μ1 = ot_up (ot_uc (ot_uc (ot_uc (ot_uc (ot_uc μ 38 f) 39 z) 34 D) 35 U) 8 (up1 (μ 8) t (μ 8 t - n))) 0 14 0) ∨ (¬ (0 ≤ t ∧ t < 3 ∧ 0 ≤ n ∧ n ≤ μ 8 t) ∧ r1 = -1 ∧ μ1 = μ))) : frQ μ μ1 := by
  rcases hc with ⟨_, _, f, z, D, U, _, _, e⟩ | ⟨_, _, e⟩
  · rw [e]
    (repeat (first | exact fq_rfl | refine fq_uc ?_ (by omega) | refine fq_up ?_ (by omega)))
  · rw [e]; exact fq_rfl
theorem fr_undo {μ μ1 : ot_M} {r1 : Int}   (hc : ((0 < μ 0 14 ∧ r1 = 1 ∧ ∃ f z D U, gChd (μ 1 11) (μ 1 12) (μ 2) (μ 3) f z ∧ gClo (μ 1 11) (μ 2) (μ 3) (up1 (μ 8) (μ 59 (μ 0 14 - 1)) (max (μ 8 (μ 59 (μ 0 14 - 1)) - 1) 0)) (μ 7) (μ 6) D U ∧ μ1 = ot_uc (ot_uc (ot_uc (ot_uc (ot_uc (ot_up μ 0 14 (μ 0 14 - 1)) 38 f) 39 z) 34 D) 35 U) 8 (up1 (μ 8) (μ 59 (μ 0 14 - 1)) (max (μ 8 (μ 59 (μ 0 14 - 1)) - 1) 0))) ∨ (μ 0 14 = 0 ∧ r1 = 0 ∧ μ1 = μ))) : frQ μ μ1 := by
  rcases hc with ⟨_, _, f, z, D, U, _, _, e⟩ | ⟨_, _, e⟩
  · rw [e]
    (repeat (first | exact fq_rfl | refine fq_uc ?_ (by omega) | refine fq_up ?_ (by omega)))
  · rw [e]; exact fq_rfl
theorem fr_winding {μ μ1 : ot_M} {r1 : Int} {op arg lw lf lt : Int → Int} {t q : Int}  (hc : ((¬ ((0 ≤ t ∧ t < 3) ∧ (0 ≤ q ∧ q < μ 1 12) ∧ μ 8 t < 120 ∧ (μ 8 t = 0 ∨ μ 7 (120 * t + (μ 8 t - 1)) ≠ q)) ∧ r1 = -1 ∧ μ1 = μ) ∨ (((0 ≤ t ∧ t < 3) ∧ (0 ≤ q ∧ q < μ 1 12) ∧ μ 8 t < 120 ∧ (μ 8 t = 0 ∨ μ 7 (120 * t + (μ 8 t - 1)) ≠ q)) ∧ mayS op arg lw lf lt (μ 12 4) (μ 2) (μ 3) (μ 8) (μ 7) (μ 6) t q = 0 ∧ r1 = -2 ∧ eqx [36, 16] μ μ1) ∨ (((0 ≤ t ∧ t < 3) ∧ (0 ≤ q ∧ q < μ 1 12) ∧ μ 8 t < 120 ∧ (μ 8 t = 0 ∨ μ 7 (120 * t + (μ 8 t - 1)) ≠ q)) ∧ mayS op arg lw lf lt (μ 12 4) (μ 2) (μ 3) (μ 8) (μ 7) (μ 6) t q = 1 ∧ r1 = μ 8 t + 1 ∧ eqx [36, 16, 38, 39, 34, 35, 7, 8, 59, 0] μ μ1 ∧ gChd (μ 1 11) (μ 1 12) (μ 2) (μ 3) (μ1 38) (μ1 39) ∧ gClo (μ 1 11) (μ 2) (μ 3) (up1 (μ 8) t (μ 8 t + 1)) (up1 (μ 7) (120 * t + μ 8 t) q) (μ 6) (μ1 34) (μ1 35) ∧ μ1 7 = up1 (μ 7) (120 * t + μ 8 t) q ∧ μ1 8 = up1 (μ 8) t (μ 8 t + 1) ∧ μ1 59 = undoA (μ 59) (μ 0 14) t ∧ μ1 0 = up1 (μ 0) 14 (min (μ 0 14 + 1) 40)))) : frQ μ μ1 := by
  rcases hc with ⟨_, _, e⟩ | ⟨_, _, _, hx⟩ | ⟨_, _, _, hx, _⟩
  · rw [e]; exact fq_rfl
  · exact fun k a b => hx k (by simp; omega)
  · exact fun k a b => hx k (by simp; omega)
theorem fr_greedy {μ μ1 : ot_M} {r1 : Int} {t pp nn w G1 : Int} {Gc Gr : Int → Int}  (hc : ((((0 ≤ t ∧ t < 3) ∧ (0 ≤ pp ∧ pp < 4) ∧ (1 ≤ nn ∧ nn ≤ 40) ∧ 0 ≤ w ∧ w ≤ 2) ∧ eqx [38, 39, 36, 16, 40, 34, 35, 7] μ μ1 ∧ gChd (μ 1 11) (μ 1 12) (μ 2) (μ 3) (μ1 38) (μ1 39) ∧ gWnd (μ 1 12) (μ 8) (μ1 7) ∧ gClo (μ 1 11) (μ 2) (μ 3) (μ 8) (μ1 7) (μ 6) (μ1 34) (μ1 35) ∧ μ1 7 = Gr ∧ r1 = (if w = 0 then G1 else if w = 1 then farS (μ 5) (μ 4) (dk (μ 1 11) (μ 2) (μ 3) Gc Gr (μ 6)) pp else (if Gc t = 0 then -1 else Gr (120 * t + (Gc t - 1))))) ∨ (¬ ((0 ≤ t ∧ t < 3) ∧ (0 ≤ pp ∧ pp < 4) ∧ (1 ≤ nn ∧ nn ≤ 40) ∧ 0 ≤ w ∧ w ≤ 2) ∧ μ1 = μ ∧ r1 = -1))) : frQ μ μ1 := by
  rcases hc with ⟨_, hx, _⟩ | ⟨_, e, _⟩
  · exact fun k a b => hx k (by simp; omega)
  · rw [e]; exact fq_rfl
theorem fr_text {μ μ1 : ot_M} {r1 : Int} {T : Nat → Int} {n : Nat}  (hc : (∀ k, k ≠ 0 → k ≠ 12 → k ≠ 13 → k ≠ 14 → k ≠ 15 → k < 49 ∨ 57 < k → μ1 k = μ k) ∧ (∀ i, i ≠ 10 → i ≠ 11 → i ≠ 12 → μ1 0 i = μ 0 i) ∧ μ1 0 10 = 0 ∧ b53 μ1 ∧ ∃ tr : TR, tR1 (tkT T n) (vlT T n) (0, []) tr ∧ match tr with | .inl f => r1 = -1 ∧ μ1 0 11 = f.1 ∧ μ1 0 12 = (plT T n) f.2 ∧ (1 ≤ f.1 ∧ f.1 ≤ 3) ∧ μ1 12 = μ 12 ∧ μ1 13 = μ 13 ∧ μ1 14 = μ 14 ∧ μ1 15 = μ 15 | .inr ls => r1 = (ls.length : Int) ∧ μ1 0 11 = 0 ∧ μ1 0 12 = -1 ∧ ls.length ≤ 16 ∧ μ1 12 4 = (ls.length : Int) ∧ (∀ i, i ≠ 4 → μ1 12 i = μ 12 i) ∧ (fl ls).length ≤ 400 ∧ cdF 0 (fl ls) (μ1 13) ∧ (∀ (i : Nat) (x : Int × CL), ls[i]? = some x → μ1 14 (i : Int) = ((fl (ls.take (i + 1))).length : Int) ∧ μ1 15 (i : Int) = (if x.1 = 0 then 1 else 0) ∧ (x.1 = 0 ∨ x.1 = 1)) ∧ (∀ i, 0 ≤ i → i < 16 → μ1 15 i = 0 ∨ μ1 15 i = 1)) : frQ μ μ1 := by
  exact fun k a b => hc.1 k (by omega) (by omega) (by omega) (by omega) (by omega) (by omega)
set_option maxRecDepth 100000 in
set_option maxHeartbeats 1000000 in
theorem la_board {p : Program} {l : Launch} {e : Env} {s : State} {m : MethodId} {below : List Frame} {meth : Method} {c : Code} {g : ot_G} {b N cells slots ln : Nat} {xs : Nat → Int32} {Q : State → Prop} {ext : ot_L} {μ : ot_M} {i : Int} (h : lwX p s m meth c g b N xs) (hgz : ot_gz g) (hr : rel μ) (hc6 : cells ≤ 599000) (hs6 : slots ≤ 7000000) (hi : 0 ≤ i ∧ i + 6 ≤ (N : Int)) (K : ∀ μ2 : ot_M, rel μ2 → LW p l e s m below meth c g b Q cells slots (LL ln ext) μ2 1154 i []) : LW p l e s m below meth c g b Q cells slots (LL ln ext) μ 168 i [] := by
  have hOk := hr.1
  have hUn := hr.2.2.2.1
  have hTp := hr.2.2.2.2.1
  have hLw := hr.2.2.2.2.2.1
  refine lr_x h dL_law_168 ?_
  refine lr_s h (kk := 1) (by omega) dL_law_169 dL_law_170 dL_law_171 dL_law_172 dL_law_173 ?_
  refine lr_call h mL_13 (c_board l g ln ext μ (sv xs (i + 1)) (sv_r _ _)) (k_0 _ _) ⟨_, rfl, rfl⟩ rfl rfl (Nat.le_of_ble_eq_true rfl) (by decide) (by omega) (by omega) dL_law_174 (fun z1 L1 μ1 hp => ?_)
  obtain ⟨rfl, hc⟩ := hp
  have hf := fr_board hc
  have hQ := relQ_fr (relQ_of hr) hf
  have hK := hQ.2.1
  obtain ⟨⟨x0, x1, x2, x11, x23, x14, x17, x35, x36, x46⟩, ⟨y61, y62, y66, y67, y63, y65, y64, y69, y70, y68, y72, y71⟩, z74, z75, z76, z77, z78⟩ := crQ hr hf
  refine lr_m h dL_law_177 ?_
  refine lr_s h (kk := 1) (by omega) dL_law_178 dL_law_179 dL_law_180 dL_law_181 dL_law_182 ?_
  refine lr_call h mL_17 (q_board l g ln ext μ1 hQ.1 (sv xs (i + 1)) (sv_r _ _)) (k_60 _ _) ⟨_, rfl, rfl⟩ rfl rfl (Nat.le_of_ble_eq_true rfl) (by decide) (by omega) (by omega) dL_law_183 (fun z2 L2 μ2 hp => ?_)
  obtain ⟨rfl, hq⟩ := hp
  obtain ⟨e12, hr2⟩ := v_board hr hc hq
  refine lr_eq h e12 dL_law_186 (by decide) ?_
  exact K μ2 hr2
set_option maxRecDepth 100000 in
set_option maxHeartbeats 1000000 in
theorem la_pin {p : Program} {l : Launch} {e : Env} {s : State} {m : MethodId} {below : List Frame} {meth : Method} {c : Code} {g : ot_G} {b N cells slots ln : Nat} {xs : Nat → Int32} {Q : State → Prop} {ext : ot_L} {μ : ot_M} {i : Int} (h : lwX p s m meth c g b N xs) (hgz : ot_gz g) (hr : rel μ) (hc6 : cells ≤ 599000) (hs6 : slots ≤ 7000000) (hi : 0 ≤ i ∧ i + 6 ≤ (N : Int)) (K : ∀ μ2 : ot_M, rel μ2 → LW p l e s m below meth c g b Q cells slots (LL ln ext) μ2 1154 i []) : LW p l e s m below meth c g b Q cells slots (LL ln ext) μ 191 i [] := by
  have hOk := hr.1
  have hUn := hr.2.2.2.1
  have hTp := hr.2.2.2.2.1
  have hLw := hr.2.2.2.2.2.1
  refine lr_x h dL_law_191 ?_
  refine lr_s h (kk := 1) (by omega) dL_law_192 dL_law_193 dL_law_194 dL_law_195 dL_law_196 ?_
  refine lr_s h (kk := 2) (by omega) dL_law_197 dL_law_198 dL_law_199 dL_law_200 dL_law_201 ?_
  refine lr_call h mL_18 (c_pin l g ln ext μ (sv xs (i + 1)) (sv xs (i + 2)) (sv_r _ _) (sv_r _ _) hOk.1.1 hOk.1.2.1 (ok_pt hOk)) (k_0 _ _) ⟨_, rfl, rfl⟩ rfl rfl (Nat.le_of_ble_eq_true rfl) (by decide) (by omega) (by omega) dL_law_202 (fun z1 L1 μ1 hp => ?_)
  obtain ⟨rfl, hc⟩ := hp
  have hf := fr_pin hc
  have hQ := relQ_fr (relQ_of hr) hf
  have hK := hQ.2.1
  obtain ⟨⟨x0, x1, x2, x11, x23, x14, x17, x35, x36, x46⟩, ⟨y61, y62, y66, y67, y63, y65, y64, y69, y70, y68, y72, y71⟩, z74, z75, z76, z77, z78⟩ := crQ hr hf
  refine lr_m h dL_law_205 ?_
  refine lr_s h (kk := 1) (by omega) dL_law_206 dL_law_207 dL_law_208 dL_law_209 dL_law_210 ?_
  refine lr_s h (kk := 2) (by omega) dL_law_211 dL_law_212 dL_law_213 dL_law_214 dL_law_215 ?_
  refine lr_call h mL_22 (q_pin l g ln ext μ1 hQ.1 (sv xs (i + 1)) (sv xs (i + 2)) (sv_r _ _) (sv_r _ _) hK.1.1 hK.1.2.1 (ok_pt hK)) (k_60 _ _) ⟨_, rfl, rfl⟩ rfl rfl (Nat.le_of_ble_eq_true rfl) (by decide) (by omega) (by omega) dL_law_216 (fun z2 L2 μ2 hp => ?_)
  obtain ⟨rfl, hq⟩ := hp
  obtain ⟨e12, hr2⟩ := v_pin hr hc hq
  refine lr_eq h e12 dL_law_219 (by decide) ?_
  exact K μ2 hr2
set_option maxRecDepth 100000 in
set_option maxHeartbeats 1000000 in
theorem la_want {p : Program} {l : Launch} {e : Env} {s : State} {m : MethodId} {below : List Frame} {meth : Method} {c : Code} {g : ot_G} {b N cells slots ln : Nat} {xs : Nat → Int32} {Q : State → Prop} {ext : ot_L} {μ : ot_M} {i : Int} (h : lwX p s m meth c g b N xs) (hgz : ot_gz g) (hr : rel μ) (hc6 : cells ≤ 599000) (hs6 : slots ≤ 7000000) (hi : 0 ≤ i ∧ i + 6 ≤ (N : Int)) (K : ∀ μ2 : ot_M, rel μ2 → LW p l e s m below meth c g b Q cells slots (LL ln ext) μ2 1154 i []) : LW p l e s m below meth c g b Q cells slots (LL ln ext) μ 224 i [] := by
  have hOk := hr.1
  have hUn := hr.2.2.2.1
  have hTp := hr.2.2.2.2.1
  have hLw := hr.2.2.2.2.2.1
  refine lr_x h dL_law_224 ?_
  refine lr_s h (kk := 1) (by omega) dL_law_225 dL_law_226 dL_law_227 dL_law_228 dL_law_229 ?_
  refine lr_s h (kk := 2) (by omega) dL_law_230 dL_law_231 dL_law_232 dL_law_233 dL_law_234 ?_
  refine lr_s h (kk := 3) (by omega) dL_law_235 dL_law_236 dL_law_237 dL_law_238 dL_law_239 ?_
  refine lr_s h (kk := 4) (by omega) dL_law_240 dL_law_241 dL_law_242 dL_law_243 dL_law_244 ?_
  refine lr_call h mL_23 (c_want l g ln ext μ (sv xs (i + 1)) (sv xs (i + 2)) (sv xs (i + 3)) (sv xs (i + 4)) (sv_r _ _) (sv_r _ _) (sv_r _ _) (sv_r _ _) hOk.1.1) (k_0 _ _) ⟨_, rfl, rfl⟩ rfl rfl (Nat.le_of_ble_eq_true rfl) (by decide) (by omega) (by omega) dL_law_245 (fun z1 L1 μ1 hp => ?_)
  obtain ⟨rfl, hc⟩ := hp
  have hf := fr_want hc
  have hQ := relQ_fr (relQ_of hr) hf
  have hK := hQ.2.1
  obtain ⟨⟨x0, x1, x2, x11, x23, x14, x17, x35, x36, x46⟩, ⟨y61, y62, y66, y67, y63, y65, y64, y69, y70, y68, y72, y71⟩, z74, z75, z76, z77, z78⟩ := crQ hr hf
  refine lr_m h dL_law_248 ?_
  refine lr_s h (kk := 1) (by omega) dL_law_249 dL_law_250 dL_law_251 dL_law_252 dL_law_253 ?_
  refine lr_s h (kk := 2) (by omega) dL_law_254 dL_law_255 dL_law_256 dL_law_257 dL_law_258 ?_
  refine lr_s h (kk := 3) (by omega) dL_law_259 dL_law_260 dL_law_261 dL_law_262 dL_law_263 ?_
  refine lr_s h (kk := 4) (by omega) dL_law_264 dL_law_265 dL_law_266 dL_law_267 dL_law_268 ?_
  refine lr_call h mL_27 (q_want l g ln ext μ1 hQ.1 (sv xs (i + 1)) (sv xs (i + 2)) (sv xs (i + 3)) (sv xs (i + 4)) (sv_r _ _) (sv_r _ _) (sv_r _ _) (sv_r _ _) hK.1.1) (k_60 _ _) ⟨_, rfl, rfl⟩ rfl rfl (Nat.le_of_ble_eq_true rfl) (by decide) (by omega) (by omega) dL_law_269 (fun z2 L2 μ2 hp => ?_)
  obtain ⟨rfl, hq⟩ := hp
  obtain ⟨e12, hr2⟩ := v_want hr hc hq
  refine lr_eq h e12 dL_law_272 (by decide) ?_
  exact K μ2 hr2
set_option maxRecDepth 100000 in
set_option maxHeartbeats 1000000 in
theorem la_weight {p : Program} {l : Launch} {e : Env} {s : State} {m : MethodId} {below : List Frame} {meth : Method} {c : Code} {g : ot_G} {b N cells slots ln : Nat} {xs : Nat → Int32} {Q : State → Prop} {ext : ot_L} {μ : ot_M} {i : Int} (h : lwX p s m meth c g b N xs) (hgz : ot_gz g) (hr : rel μ) (hc6 : cells ≤ 599000) (hs6 : slots ≤ 7000000) (hi : 0 ≤ i ∧ i + 6 ≤ (N : Int)) (K : ∀ μ2 : ot_M, rel μ2 → LW p l e s m below meth c g b Q cells slots (LL ln ext) μ2 1154 i []) : LW p l e s m below meth c g b Q cells slots (LL ln ext) μ 277 i [] := by
  have hOk := hr.1
  have hUn := hr.2.2.2.1
  have hTp := hr.2.2.2.2.1
  have hLw := hr.2.2.2.2.2.1
  refine lr_x h dL_law_277 ?_
  refine lr_s h (kk := 1) (by omega) dL_law_278 dL_law_279 dL_law_280 dL_law_281 dL_law_282 ?_
  refine lr_s h (kk := 2) (by omega) dL_law_283 dL_law_284 dL_law_285 dL_law_286 dL_law_287 ?_
  refine lr_s h (kk := 3) (by omega) dL_law_288 dL_law_289 dL_law_290 dL_law_291 dL_law_292 ?_
  refine lr_call h mL_28 (c_weight l g ln ext μ (sv xs (i + 1)) (sv xs (i + 2)) (sv xs (i + 3)) (sv_r _ _) (sv_r _ _) (sv_r _ _) hOk.1.1) (k_0 _ _) ⟨_, rfl, rfl⟩ rfl rfl (Nat.le_of_ble_eq_true rfl) (by decide) (by omega) (by omega) dL_law_293 (fun z1 L1 μ1 hp => ?_)
  obtain ⟨rfl, hc⟩ := hp
  have hf := fr_weight hc
  have hQ := relQ_fr (relQ_of hr) hf
  have hK := hQ.2.1
  obtain ⟨⟨x0, x1, x2, x11, x23, x14, x17, x35, x36, x46⟩, ⟨y61, y62, y66, y67, y63, y65, y64, y69, y70, y68, y72, y71⟩, z74, z75, z76, z77, z78⟩ := crQ hr hf
  refine lr_m h dL_law_296 ?_
  refine lr_s h (kk := 1) (by omega) dL_law_297 dL_law_298 dL_law_299 dL_law_300 dL_law_301 ?_
  refine lr_s h (kk := 2) (by omega) dL_law_302 dL_law_303 dL_law_304 dL_law_305 dL_law_306 ?_
  refine lr_s h (kk := 3) (by omega) dL_law_307 dL_law_308 dL_law_309 dL_law_310 dL_law_311 ?_
  refine lr_call h mL_32 (q_weight l g ln ext μ1 hQ.1 (sv xs (i + 1)) (sv xs (i + 2)) (sv xs (i + 3)) (sv_r _ _) (sv_r _ _) (sv_r _ _) hK.1.1) (k_60 _ _) ⟨_, rfl, rfl⟩ rfl rfl (Nat.le_of_ble_eq_true rfl) (by decide) (by omega) (by omega) dL_law_312 (fun z2 L2 μ2 hp => ?_)
  obtain ⟨rfl, hq⟩ := hp
  obtain ⟨e12, hr2⟩ := v_weight hr hc hq
  refine lr_eq h e12 dL_law_315 (by decide) ?_
  exact K μ2 hr2
set_option maxRecDepth 100000 in
set_option maxHeartbeats 1000000 in
theorem la_shade {p : Program} {l : Launch} {e : Env} {s : State} {m : MethodId} {below : List Frame} {meth : Method} {c : Code} {g : ot_G} {b N cells slots ln : Nat} {xs : Nat → Int32} {Q : State → Prop} {ext : ot_L} {μ : ot_M} {i : Int} (h : lwX p s m meth c g b N xs) (hgz : ot_gz g) (hr : rel μ) (hc6 : cells ≤ 599000) (hs6 : slots ≤ 7000000) (hi : 0 ≤ i ∧ i + 6 ≤ (N : Int)) (K : ∀ μ2 : ot_M, rel μ2 → LW p l e s m below meth c g b Q cells slots (LL ln ext) μ2 1154 i []) : LW p l e s m below meth c g b Q cells slots (LL ln ext) μ 320 i [] := by
  have hOk := hr.1
  have hUn := hr.2.2.2.1
  have hTp := hr.2.2.2.2.1
  have hLw := hr.2.2.2.2.2.1
  refine lr_x h dL_law_320 ?_
  refine lr_s h (kk := 1) (by omega) dL_law_321 dL_law_322 dL_law_323 dL_law_324 dL_law_325 ?_
  refine lr_s h (kk := 2) (by omega) dL_law_326 dL_law_327 dL_law_328 dL_law_329 dL_law_330 ?_
  refine lr_call h mL_33 (c_shade l g ln ext μ (sv xs (i + 1)) (sv xs (i + 2)) (sv_r _ _) (sv_r _ _) hOk.1 hr.2.1 hOk.2.1) (k_0 _ _) ⟨_, rfl, rfl⟩ rfl rfl (Nat.le_of_ble_eq_true rfl) (by decide) (by omega) (by omega) dL_law_331 (fun z1 L1 μ1 hp => ?_)
  obtain ⟨rfl, hc⟩ := hp
  have hf := fr_shade hc
  have hQ := relQ_fr (relQ_of hr) hf
  have hK := hQ.2.1
  obtain ⟨⟨x0, x1, x2, x11, x23, x14, x17, x35, x36, x46⟩, ⟨y61, y62, y66, y67, y63, y65, y64, y69, y70, y68, y72, y71⟩, z74, z75, z76, z77, z78⟩ := crQ hr hf
  refine lr_m h dL_law_334 ?_
  refine lr_s h (kk := 1) (by omega) dL_law_335 dL_law_336 dL_law_337 dL_law_338 dL_law_339 ?_
  refine lr_s h (kk := 2) (by omega) dL_law_340 dL_law_341 dL_law_342 dL_law_343 dL_law_344 ?_
  refine lr_call h mL_37 (q_shade l g ln ext μ1 hQ.1 (sv xs (i + 1)) (sv xs (i + 2)) (sv_r _ _) (sv_r _ _)) (k_60 _ _) ⟨_, rfl, rfl⟩ rfl rfl (Nat.le_of_ble_eq_true rfl) (by decide) (by omega) (by omega) dL_law_345 (fun z2 L2 μ2 hp => ?_)
  obtain ⟨rfl, hq⟩ := hp
  obtain ⟨e12, hr2⟩ := v_shade hr hc hq
  refine lr_eq h e12 dL_law_348 (by decide) ?_
  exact K μ2 hr2
set_option maxRecDepth 100000 in
set_option maxHeartbeats 1000000 in
theorem la_winding {p : Program} {l : Launch} {e : Env} {s : State} {m : MethodId} {below : List Frame} {meth : Method} {c : Code} {g : ot_G} {b N cells slots ln : Nat} {xs : Nat → Int32} {Q : State → Prop} {ext : ot_L} {μ : ot_M} {i : Int} (h : lwX p s m meth c g b N xs) (hgz : ot_gz g) (hr : rel μ) (hc6 : cells ≤ 599000) (hs6 : slots ≤ 7000000) (hi : 0 ≤ i ∧ i + 6 ≤ (N : Int)) (K : ∀ μ2 : ot_M, rel μ2 → LW p l e s m below meth c g b Q cells slots (LL ln ext) μ2 1154 i []) : LW p l e s m below meth c g b Q cells slots (LL ln ext) μ 353 i [] := by
  have hOk := hr.1
  have hUn := hr.2.2.2.1
  have hTp := hr.2.2.2.2.1
  have hLw := hr.2.2.2.2.2.1
  refine lr_x h dL_law_353 ?_
  refine lr_s h (kk := 1) (by omega) dL_law_354 dL_law_355 dL_law_356 dL_law_357 dL_law_358 ?_
  refine lr_s h (kk := 2) (by omega) dL_law_359 dL_law_360 dL_law_361 dL_law_362 dL_law_363 ?_
  refine lr_call h mL_38 (c_winding l g ln ext μ (μ 77) (μ 78) (μ 74) (μ 75) (μ 76) (sv xs (i + 1)) (sv xs (i + 2)) (sv_r _ _) (sv_r _ _) hOk.1 hr.2.1 hOk.2.1 hr.2.2.1 hLw.1 hOk.2.2.1 hUn.1) (k_0 _ _) ⟨_, rfl, rfl⟩ rfl rfl (Nat.le_of_ble_eq_true rfl) (by decide) (by omega) (by omega) dL_law_364 (fun z1 L1 μ1 hp => ?_)
  obtain ⟨rfl, hc⟩ := hp
  have hf := fr_winding hc
  have hQ := relQ_fr (relQ_of hr) hf
  have hK := hQ.2.1
  obtain ⟨⟨x0, x1, x2, x11, x23, x14, x17, x35, x36, x46⟩, ⟨y61, y62, y66, y67, y63, y65, y64, y69, y70, y68, y72, y71⟩, z74, z75, z76, z77, z78⟩ := crQ hr hf
  refine lr_m h dL_law_367 ?_
  refine lr_s h (kk := 1) (by omega) dL_law_368 dL_law_369 dL_law_370 dL_law_371 dL_law_372 ?_
  refine lr_s h (kk := 2) (by omega) dL_law_373 dL_law_374 dL_law_375 dL_law_376 dL_law_377 ?_
  refine lr_call h mL_41 (q_winding l g ln ext μ1 hQ.1 (sv xs (i + 1)) (sv xs (i + 2)) (sv_r _ _) (sv_r _ _) hK.1 hK.2.1 hQ.2.2.1 hK.2.2.1 hQ.2.2.2.1.1) (k_60 _ _) ⟨_, rfl, rfl⟩ rfl rfl (Nat.le_of_ble_eq_true rfl) (by decide) (by omega) (by omega) dL_law_378 (fun z2 L2 μ2 hp => ?_)
  obtain ⟨rfl, hq⟩ := hp
  obtain ⟨e12, hr2⟩ := v_winding hr hc hq
  refine lr_eq h e12 dL_law_381 (by decide) ?_
  exact K μ2 hr2
set_option maxRecDepth 100000 in
set_option maxHeartbeats 1000000 in
theorem la_rub {p : Program} {l : Launch} {e : Env} {s : State} {m : MethodId} {below : List Frame} {meth : Method} {c : Code} {g : ot_G} {b N cells slots ln : Nat} {xs : Nat → Int32} {Q : State → Prop} {ext : ot_L} {μ : ot_M} {i : Int} (h : lwX p s m meth c g b N xs) (hgz : ot_gz g) (hr : rel μ) (hc6 : cells ≤ 599000) (hs6 : slots ≤ 7000000) (hi : 0 ≤ i ∧ i + 6 ≤ (N : Int)) (K : ∀ μ2 : ot_M, rel μ2 → LW p l e s m below meth c g b Q cells slots (LL ln ext) μ2 1154 i []) : LW p l e s m below meth c g b Q cells slots (LL ln ext) μ 386 i [] := by
  have hOk := hr.1
  have hUn := hr.2.2.2.1
  have hTp := hr.2.2.2.2.1
  have hLw := hr.2.2.2.2.2.1
  refine lr_x h dL_law_386 ?_
  refine lr_s h (kk := 1) (by omega) dL_law_387 dL_law_388 dL_law_389 dL_law_390 dL_law_391 ?_
  refine lr_s h (kk := 2) (by omega) dL_law_392 dL_law_393 dL_law_394 dL_law_395 dL_law_396 ?_
  refine lr_call h mL_42 (c_rub l g ln ext μ (sv xs (i + 1)) (sv xs (i + 2)) (sv_r _ _) (sv_r _ _) hOk.1 hr.2.1 hOk.2.1 hr.2.2.1) (k_0 _ _) ⟨_, rfl, rfl⟩ rfl rfl (Nat.le_of_ble_eq_true rfl) (by decide) (by omega) (by omega) dL_law_397 (fun z1 L1 μ1 hp => ?_)
  obtain ⟨rfl, hc⟩ := hp
  have hf := fr_rub hc
  have hQ := relQ_fr (relQ_of hr) hf
  have hK := hQ.2.1
  obtain ⟨⟨x0, x1, x2, x11, x23, x14, x17, x35, x36, x46⟩, ⟨y61, y62, y66, y67, y63, y65, y64, y69, y70, y68, y72, y71⟩, z74, z75, z76, z77, z78⟩ := crQ hr hf
  refine lr_m h dL_law_400 ?_
  refine lr_s h (kk := 1) (by omega) dL_law_401 dL_law_402 dL_law_403 dL_law_404 dL_law_405 ?_
  refine lr_s h (kk := 2) (by omega) dL_law_406 dL_law_407 dL_law_408 dL_law_409 dL_law_410 ?_
  refine lr_call h mL_45 (q_rub l g ln ext μ1 hQ.1 (sv xs (i + 1)) (sv xs (i + 2)) (sv_r _ _) (sv_r _ _) (ok_ct hK)) (k_60 _ _) ⟨_, rfl, rfl⟩ rfl rfl (Nat.le_of_ble_eq_true rfl) (by decide) (by omega) (by omega) dL_law_411 (fun z2 L2 μ2 hp => ?_)
  obtain ⟨rfl, hq⟩ := hp
  obtain ⟨e12, hr2⟩ := v_rub hr hc hq
  refine lr_eq h e12 dL_law_414 (by decide) ?_
  exact K μ2 hr2
set_option maxRecDepth 100000 in
set_option maxHeartbeats 1000000 in
theorem la_feed {p : Program} {l : Launch} {e : Env} {s : State} {m : MethodId} {below : List Frame} {meth : Method} {c : Code} {g : ot_G} {b N cells slots ln : Nat} {xs : Nat → Int32} {Q : State → Prop} {ext : ot_L} {μ : ot_M} {i : Int} (h : lwX p s m meth c g b N xs) (hgz : ot_gz g) (hr : rel μ) (hc6 : cells ≤ 599000) (hs6 : slots ≤ 7000000) (hi : 0 ≤ i ∧ i + 6 ≤ (N : Int)) (K : ∀ μ2 : ot_M, rel μ2 → LW p l e s m below meth c g b Q cells slots (LL ln ext) μ2 1154 i []) : LW p l e s m below meth c g b Q cells slots (LL ln ext) μ 419 i [] := by
  have hOk := hr.1
  have hUn := hr.2.2.2.1
  have hTp := hr.2.2.2.2.1
  have hLw := hr.2.2.2.2.2.1
  refine lr_x h dL_law_419 ?_
  refine lr_s h (kk := 1) (by omega) dL_law_420 dL_law_421 dL_law_422 dL_law_423 dL_law_424 ?_
  refine lr_s h (kk := 2) (by omega) dL_law_425 dL_law_426 dL_law_427 dL_law_428 dL_law_429 ?_
  refine lr_s h (kk := 3) (by omega) dL_law_430 dL_law_431 dL_law_432 dL_law_433 dL_law_434 ?_
  refine lr_s h (kk := 4) (by omega) dL_law_435 dL_law_436 dL_law_437 dL_law_438 dL_law_439 ?_
  refine lr_s h (kk := 5) (by omega) dL_law_440 dL_law_441 dL_law_442 dL_law_443 dL_law_444 ?_
  refine lr_call h mL_46 (c_feed l g ln ext μ (sv xs (i + 1)) (sv xs (i + 2)) (sv xs (i + 3)) (sv xs (i + 4)) (sv xs (i + 5)) (sv_r _ _) (sv_r _ _) (sv_r _ _) (sv_r _ _) (sv_r _ _) hTp.1) (k_0 _ _) ⟨_, rfl, rfl⟩ rfl rfl (Nat.le_of_ble_eq_true rfl) (by decide) (by omega) (by omega) dL_law_445 (fun z1 L1 μ1 hp => ?_)
  obtain ⟨rfl, hc⟩ := hp
  have hf := fr_feed hc
  have hQ := relQ_fr (relQ_of hr) hf
  have hK := hQ.2.1
  obtain ⟨⟨x0, x1, x2, x11, x23, x14, x17, x35, x36, x46⟩, ⟨y61, y62, y66, y67, y63, y65, y64, y69, y70, y68, y72, y71⟩, z74, z75, z76, z77, z78⟩ := crQ hr hf
  refine lr_m h dL_law_448 ?_
  refine lr_s h (kk := 1) (by omega) dL_law_449 dL_law_450 dL_law_451 dL_law_452 dL_law_453 ?_
  refine lr_s h (kk := 2) (by omega) dL_law_454 dL_law_455 dL_law_456 dL_law_457 dL_law_458 ?_
  refine lr_s h (kk := 3) (by omega) dL_law_459 dL_law_460 dL_law_461 dL_law_462 dL_law_463 ?_
  refine lr_s h (kk := 4) (by omega) dL_law_464 dL_law_465 dL_law_466 dL_law_467 dL_law_468 ?_
  refine lr_s h (kk := 5) (by omega) dL_law_469 dL_law_470 dL_law_471 dL_law_472 dL_law_473 ?_
  refine lr_call h mL_50 (q_feed l g ln ext μ1 hQ.1 (sv xs (i + 1)) (sv xs (i + 2)) (sv xs (i + 3)) (sv xs (i + 4)) (sv xs (i + 5)) (sv_r _ _) (sv_r _ _) (sv_r _ _) (sv_r _ _) (sv_r _ _) hQ.2.2.2.2.1.1) (k_60 _ _) ⟨_, rfl, rfl⟩ rfl rfl (Nat.le_of_ble_eq_true rfl) (by decide) (by omega) (by omega) dL_law_474 (fun z2 L2 μ2 hp => ?_)
  obtain ⟨rfl, hq⟩ := hp
  obtain ⟨e12, hr2⟩ := v_feed hr hc hq
  refine lr_eq h e12 dL_law_477 (by decide) ?_
  exact K μ2 hr2
set_option maxRecDepth 100000 in
set_option maxHeartbeats 1000000 in
theorem la_end {p : Program} {l : Launch} {e : Env} {s : State} {m : MethodId} {below : List Frame} {meth : Method} {c : Code} {g : ot_G} {b N cells slots ln : Nat} {xs : Nat → Int32} {Q : State → Prop} {ext : ot_L} {μ : ot_M} {i : Int} (h : lwX p s m meth c g b N xs) (hgz : ot_gz g) (hr : rel μ) (hc6 : cells ≤ 599000) (hs6 : slots ≤ 7000000) (hi : 0 ≤ i ∧ i + 6 ≤ (N : Int)) (K : ∀ μ2 : ot_M, rel μ2 → LW p l e s m below meth c g b Q cells slots (LL ln ext) μ2 1154 i []) : LW p l e s m below meth c g b Q cells slots (LL ln ext) μ 482 i [] := by
  have hOk := hr.1
  have hUn := hr.2.2.2.1
  have hTp := hr.2.2.2.2.1
  have hLw := hr.2.2.2.2.2.1
  refine lr_x h dL_law_482 ?_
  refine lr_s h (kk := 1) (by omega) dL_law_483 dL_law_484 dL_law_485 dL_law_486 dL_law_487 ?_
  refine lr_call h mL_51 (c_end l g ln ext μ (sv xs (i + 1)) (sv_r _ _) hTp.1) (k_0 _ _) ⟨_, rfl, rfl⟩ rfl rfl (Nat.le_of_ble_eq_true rfl) (by decide) (by omega) (by omega) dL_law_488 (fun z1 L1 μ1 hp => ?_)
  obtain ⟨rfl, hc⟩ := hp
  have hf := fr_end hc
  have hQ := relQ_fr (relQ_of hr) hf
  have hK := hQ.2.1
  obtain ⟨⟨x0, x1, x2, x11, x23, x14, x17, x35, x36, x46⟩, ⟨y61, y62, y66, y67, y63, y65, y64, y69, y70, y68, y72, y71⟩, z74, z75, z76, z77, z78⟩ := crQ hr hf
  refine lr_m h dL_law_491 ?_
  refine lr_s h (kk := 1) (by omega) dL_law_492 dL_law_493 dL_law_494 dL_law_495 dL_law_496 ?_
  refine lr_call h mL_54 (q_end l g ln ext μ1 hQ.1 (sv xs (i + 1)) (sv_r _ _) hQ.2.2.2.2.1.1) (k_60 _ _) ⟨_, rfl, rfl⟩ rfl rfl (Nat.le_of_ble_eq_true rfl) (by decide) (by omega) (by omega) dL_law_497 (fun z2 L2 μ2 hp => ?_)
  obtain ⟨rfl, hq⟩ := hp
  obtain ⟨e12, hr2⟩ := v_end hr hc hq
  refine lr_eq h e12 dL_law_500 (by decide) ?_
  exact K μ2 hr2
set_option maxRecDepth 100000 in
set_option maxHeartbeats 1000000 in
theorem la_text {p : Program} {l : Launch} {e : Env} {s : State} {m : MethodId} {below : List Frame} {meth : Method} {c : Code} {g : ot_G} {b N cells slots ln : Nat} {xs : Nat → Int32} {Q : State → Prop} {ext : ot_L} {μ : ot_M} {i : Int} (h : lwX p s m meth c g b N xs) (hgz : ot_gz g) (hr : rel μ) (hc6 : cells ≤ 599000) (hs6 : slots ≤ 7000000) (hi : 0 ≤ i ∧ i + 6 ≤ (N : Int)) (K : ∀ μ2 : ot_M, rel μ2 → LW p l e s m below meth c g b Q cells slots (LL ln ext) μ2 1154 i []) : LW p l e s m below meth c g b Q cells slots (LL ln ext) μ 505 i [] := by
  have hOk := hr.1
  have hUn := hr.2.2.2.1
  have hTp := hr.2.2.2.2.1
  have hLw := hr.2.2.2.2.2.1
  refine lr_x h dL_law_505 ?_
  refine lr_call h mL_55 (c_text l g ln ext μ hgz hLw.2.2.1 (fun k : Nat => μ 58 (k : Int)) (μ 0 10).toNat (fun k _ => rfl) (fun k => hTp.2 k) (by have := hTp.1; omega) (by have := hTp.1; omega)) (k_0 _ _) ⟨_, rfl, rfl⟩ rfl rfl (Nat.le_of_ble_eq_true rfl) (by decide) (by omega) (by omega) dL_law_506 (fun z1 L1 μ1 hp => ?_)
  obtain ⟨rfl, hc⟩ := hp
  have hf := fr_text hc
  have hQ := relQ_fr (relQ_of hr) hf
  have hK := hQ.2.1
  obtain ⟨⟨x0, x1, x2, x11, x23, x14, x17, x35, x36, x46⟩, ⟨y61, y62, y66, y67, y63, y65, y64, y69, y70, y68, y72, y71⟩, z74, z75, z76, z77, z78⟩ := crQ hr hf
  refine lr_m h dL_law_509 ?_
  refine lr_call h mL_59 (q_text l g ln ext μ1 hQ.1 (fun k : Nat => μ 58 (k : Int)) (μ 0 10).toNat (fun k _ => by rw [y72]) (fun k => hTp.2 k) (by have := hTp.1; omega) (by have := hTp.1; rw [x17]; omega) hQ.2.2.2.2.2.1 hQ.2.2.2.2.2.2.1) (k_60 _ _) ⟨_, rfl, rfl⟩ rfl rfl (Nat.le_of_ble_eq_true rfl) (by decide) (by omega) (by omega) dL_law_510 (fun z2 L2 μ2 hp => ?_)
  obtain ⟨rfl, hq⟩ := hp
  obtain ⟨e12, hr2⟩ := v_text hr hc hq
  refine lr_eq h e12 dL_law_513 (by decide) ?_
  exact K μ2 hr2
set_option maxRecDepth 100000 in
set_option maxHeartbeats 1000000 in
theorem la_fault {p : Program} {l : Launch} {e : Env} {s : State} {m : MethodId} {below : List Frame} {meth : Method} {c : Code} {g : ot_G} {b N cells slots ln : Nat} {xs : Nat → Int32} {Q : State → Prop} {ext : ot_L} {μ : ot_M} {i : Int} (h : lwX p s m meth c g b N xs) (hgz : ot_gz g) (hr : rel μ) (hc6 : cells ≤ 599000) (hs6 : slots ≤ 7000000) (hi : 0 ≤ i ∧ i + 6 ≤ (N : Int)) (K : ∀ μ2 : ot_M, rel μ2 → LW p l e s m below meth c g b Q cells slots (LL ln ext) μ2 1154 i []) : LW p l e s m below meth c g b Q cells slots (LL ln ext) μ 518 i [] := by
  have hOk := hr.1
  have hUn := hr.2.2.2.1
  have hTp := hr.2.2.2.2.1
  have hLw := hr.2.2.2.2.2.1
  refine lr_x h dL_law_518 ?_
  refine lr_s h (kk := 1) (by omega) dL_law_519 dL_law_520 dL_law_521 dL_law_522 dL_law_523 ?_
  refine lr_call h mL_60 (c_fault l g ln ext μ (sv xs (i + 1)) (sv_r _ _)) (k_0 _ _) ⟨_, rfl, rfl⟩ rfl rfl (Nat.le_of_ble_eq_true rfl) (by decide) (by omega) (by omega) dL_law_524 (fun z1 L1 μ1 hp => ?_)
  obtain ⟨rfl, hc⟩ := hp
  have hf := fr_fault hc
  have hQ := relQ_fr (relQ_of hr) hf
  have hK := hQ.2.1
  obtain ⟨⟨x0, x1, x2, x11, x23, x14, x17, x35, x36, x46⟩, ⟨y61, y62, y66, y67, y63, y65, y64, y69, y70, y68, y72, y71⟩, z74, z75, z76, z77, z78⟩ := crQ hr hf
  refine lr_m h dL_law_527 ?_
  refine lr_s h (kk := 1) (by omega) dL_law_528 dL_law_529 dL_law_530 dL_law_531 dL_law_532 ?_
  refine lr_call h mL_64 (q_fault l g ln ext μ1 hQ.1 (sv xs (i + 1)) (sv_r _ _)) (k_60 _ _) ⟨_, rfl, rfl⟩ rfl rfl (Nat.le_of_ble_eq_true rfl) (by decide) (by omega) (by omega) dL_law_533 (fun z2 L2 μ2 hp => ?_)
  obtain ⟨rfl, hq⟩ := hp
  obtain ⟨e12, hr2⟩ := v_fault hr hc hq
  refine lr_eq h e12 dL_law_536 (by decide) ?_
  exact K μ2 hr2

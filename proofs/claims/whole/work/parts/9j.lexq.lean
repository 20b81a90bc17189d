def w2L : List Int := [32, 109, 97, 121, 32, 98, 97, 114, 32, 119, 104, 101, 110, 32, 111, 114, 32, 97, 110, 100, 32, 110, 111, 116, 32, 102, 114, 111, 109, 32, 116, 111, 32, 108, 101, 110, 103, 116, 104, 32, 117, 115, 101, 100, 32, 116, 104, 114, 101, 97, 100, 32, 119, 111, 117, 110, 100, 32, 116, 117, 114, 110, 32, 115, 104, 97, 100, 101, 32]
def wst (w : Nat) : Nat := ([0, 4, 8, 13, 16, 20, 24, 29, 32, 39, 44, 51, 57, 62, 68] : List Nat).getD w 0
def wln (w : Nat) : Nat := ([3, 3, 4, 2, 3, 3, 4, 2, 6, 4, 6, 5, 4, 5] : List Nat).getD w 0
theorem w2_all : (List.range 14).all (fun w => Nat.beq (wst (w + 1)) (wst w + 1 + wln w) && Nat.ble (wln w) 6 && Nat.ble 1 (wln w) && Nat.ble (wst w) 62 && (List.range (wln w)).all (fun i => decide (w2L.getD (wst w + 1 + i) 0 = wdC w i) && decide (wdC w i ≠ 32)) && decide (wdC w (wln w) = 32) && decide (w2L.getD (wst w + 1 + wln w) 0 = 32)) = true := by decide +kernel
theorem w2_at {w : Nat} (hw : w < 14) : wst (w + 1) = wst w + 1 + wln w ∧ wln w ≤ 6 ∧ 1 ≤ wln w ∧ wst w ≤ 62 ∧ (∀ i, i < wln w → w2L.getD (wst w + 1 + i) 0 = wdC w i ∧ wdC w i ≠ 32) ∧ wdC w (wln w) = 32 ∧ w2L.getD (wst w + 1 + wln w) 0 = 32 := by
  have h := List.all_eq_true.mp w2_all w (List.mem_range.mpr hw)
  simp only [Bool.and_eq_true, List.all_eq_true, decide_eq_true_eq] at h
  obtain ⟨⟨⟨⟨⟨⟨h1, h2⟩, h3⟩, h4⟩, h5⟩, h6⟩, h7⟩ := h
  exact ⟨Nat.eq_of_beq_eq_true h1, Nat.le_of_ble_eq_true h2, Nat.le_of_ble_eq_true h3, Nat.le_of_ble_eq_true h4, fun i hi => h5 i (List.mem_range.mpr hi), h6, h7⟩
def gWd (f : Int → Int) : Prop := ∀ k : Nat, k < 69 → f (k : Int) = w2L.getD k 0
theorem wdE_len {T : Nat → Int} {a b w : Nat} (hw : w < 14) (hl : ∀ k, a ≤ k → k < b → ltB (T k) = true) (hab : a < b) (h : wdE T a b w = true) : b - a = wln w := by
  obtain ⟨h1, h2, h3⟩ := wdE_iff.mp h
  obtain ⟨_, _, _, _, q5, q6, _⟩ := w2_at hw
  rcases Nat.lt_trichotomy (b - a) (wln w) with e | e | e
  · exact absurd h3 (q5 _ e).2
  · exact e
  · have := h2 (wln w) e
    rw [q6] at this
    have q := hl (a + wln w) (by omega) (by omega)
    rw [← this] at q
    exact absurd q (by decide)
def rawN (T : Nat → Int) (n i : Nat) : Int := if i < n then T i else -1
theorem raw_eq {T : Nat → Int} {n i : Nat} {m z : Int} {f : Int → Int} (hm : m = (n : Int)) (hT : ∀ k : Nat, k < n → f (k : Int) = T k) (h : z = if (i : Int) < m then f (i : Int) else -1) : z = rawN T n i := by
  rw [h]
  unfold rawN
  by_cases w : i < n
  · rw [if_pos w, if_pos (by omega), hT i w]
  · rw [if_neg w, if_neg (by omega)]
theorem rawN_rng {T : Nat → Int} {n i : Nat} (h : ∀ k, 0 ≤ T k ∧ T k ≤ 255) : -1 ≤ rawN T n i ∧ rawN T n i ≤ 255 := by
  unfold rawN
  have := h i
  split <;> omega
theorem rawN_in {T : Nat → Int} {n i : Nat} (h : ∀ k, 0 ≤ T k ∧ T k ≤ 255) (hr : rawN T n i ≠ -1) : i < n ∧ rawN T n i = T i := by
  unfold rawN at hr ⊢
  by_cases w : i < n
  · rw [if_pos w]; exact ⟨w, rfl⟩
  · rw [if_neg w] at hr; exact absurd rfl hr
theorem rawN_out {T : Nat → Int} {n i : Nat} (h : ∀ k, 0 ≤ T k ∧ T k ≤ 255) (hr : rawN T n i = -1) : n ≤ i := by
  unfold rawN at hr
  have := h i
  split at hr <;> omega
/-- the other's token, told by the first one's -/
def tqR (T : Nat → Int) (n p : Nat) (tk vl : Int) : Prop := (tkN T n p = 21 ∧ tk = 0) ∨ (tkN T n p = 22 ∧ tk = 1) ∨ ((0 ≤ tkN T n p ∧ tkN T n p < 14) ∧ tk = 2 ∧ vl = tkN T n p) ∨ (tkN T n p = 20 ∧ tk = 3 ∧ vl = vlN T n p ∧ 0 ≤ vl ∧ vl ≤ 9999) ∨ (40 ≤ tkN T n p ∧ tkN T n p ≤ 62 ∧ tk = 4 ∧ vl = tkN T n p)
theorem sg_list {c : Int} : sgL.contains c = true ↔ (c = 59 ∨ c = 43 ∨ c = 45 ∨ c = 42 ∨ c = 47 ∨ c = 40 ∨ c = 41 ∨ c = 60 ∨ c = 61 ∨ c = 62) := by
  rw [List.contains_iff_mem]
  unfold sgL
  simp only [List.mem_cons, List.not_mem_nil, or_false]
theorem w2_rng (k : Nat) : 0 ≤ w2L.getD k 0 ∧ w2L.getD k 0 ≤ 122 := by
  rcases Nat.lt_or_ge k 69 with h | h
  · have key : (List.range 69).all (fun k => decide (0 ≤ w2L.getD k 0 ∧ w2L.getD k 0 ≤ 122)) = true := by decide +kernel
    exact of_decide_eq_true (List.all_eq_true.mp key k (List.mem_range.mpr h))
  · have : w2L.getD k 0 = 0 := by
      rw [List.getD_eq_getElem?_getD, List.getElem?_eq_none (show w2L.length ≤ k from h)]
      rfl
    omega
theorem wst_le {w : Nat} (h : w ≤ 14) : wst w ≤ 68 := by
  rcases Nat.lt_or_ge w 14 with q | q
  · have := (w2_at q).2.2.2.1; omega
  · have e : w = 14 := by omega
    rw [e]; decide
set_option maxRecDepth 100000 in
set_option maxHeartbeats 1000000 in
theorem q_wordAt (l : Launch) (g : ot_G) (ln : Nat) (ext : ot_L) (μ : ot_M) (hwd : gWd (μ 73)) (a b : Nat) (hab : a < b) (T : Nat → Int) (n : Nat) (hT : ∀ k : Nat, k < n → μ 72 (k : Int) = T k) (hT2 : ∀ k, 0 ≤ T k ∧ T k ≤ 255) (hn : n ≤ 400) (hb : b ≤ n) (hl : ∀ k, a ≤ k → k < b → ltB (T k) = true)  : ot_C l g yX10_wordAt cX10_wordAt 6 (some .int) 0 0 0 [.inr 60, .inl (a : Int), .inl (b : Int)] (LL ln ext) μ (ot_pi (fun r L2 μ2 => L2 = LL ln ext ∧ μ2 = μ ∧ r = (if kwN T a b < 14 then (kwN T a b : Int) else -1))) := by
  refine ot_enter (by decide) (Nat.le_of_ble_eq_true rfl) ?_
  intro p e s m args below meth c X hr
  refine tt_iconst X dX10_wordAt_0 ?_
  refine tt_istore_n X dX10_wordAt_1 (by decide) ?_
  refine tt_iconst X dX10_wordAt_2 ?_
  refine tt_istore X dX10_wordAt_3 (by decide) ?_
  refine tt_loc [(0, _), (1, _), (2, _), (3, _), (4, _)] ⟨rfl, rfl, rfl, rfl, rfl, trivial⟩ ?_
  refine tt_loop (α := Nat) (fun w => 14 - w) (fun w => w ≤ 14 ∧ ∀ u, u < w → wdE T a b u = false) (fun w => μ) (fun w => [(0, .inr 60), (1, .inl (a : Int)), (2, .inl (b : Int)), (3, .inl ((w : Int) - 1)), (4, .inl (wst w : Int))]) 0 ⟨Nat.zero_le _, fun u hu => absurd hu (Nat.not_lt_zero u)⟩ ?_
  intro w hI ih
  try dsimp only at hI ih ⊢
  have hw14 := hI.1
  refine tt_iload X rfl dX10_wordAt_5 ?_
  refine tt_bipush X (by decide) dX10_wordAt_7 ?_
  refine tt_icmp_ge X 117 (by have h62 := wst_le hw14; omega) dX10_wordAt_9 (by decide) (fun b9 => ?_) (fun b9 => ?_)
  · refine tt_iconst X dX10_wordAt_117 ?_
    refine tt_iret X ⟨hr.1, hr.2.1⟩ (by decide) (by decide) dX10_wordAt_118 ?_
    have hwe : w = 14 := by
      apply Classical.byContradiction
      intro hne
      have := (w2_at (w := w) (by omega)).2.2.2.1
      omega
    have hk : kwN T a b = 14 := lsN_none 14 (fun u hu => hI.2 u (by omega))
    refine ⟨rfl, rfl, ?_⟩
    rw [hk, if_neg (by omega)]
  · refine tt_iconst X dX10_wordAt_12 ?_
    refine tt_istore X dX10_wordAt_13 (by decide) ?_
    refine tt_iload_n X rfl dX10_wordAt_15 ?_
    refine tt_iconst X dX10_wordAt_16 ?_
    refine tt_iadd X dX10_wordAt_17 ?_
    refine tt_istore_n X dX10_wordAt_18 (by decide) ?_
    have hwlt : w < 14 := by
      rcases Nat.lt_or_ge w 14 with q | q
      · exact q
      · have : w = 14 := by omega
        subst this
        exact absurd b9 (by decide)
    have hw5 := w2_at hwlt
    have hw68 := wst_le (w := w + 1) (by omega)
    refine tt_loc [(0, _), (1, _), (2, _), (3, _), (4, _), (5, _)] ⟨rfl, rfl, rfl, rfl, rfl, rfl, trivial⟩ ?_
    refine tt_loop (α := Nat) (fun i => 7 - i) (fun i => (i ≤ wln w ∧ a + i ≤ b) ∧ ∀ u, u < i → w2L.getD (wst w + 1 + u) 0 = T (a + u)) (fun i => μ) (fun i => [(0, .inr 60), (1, .inl (a : Int)), (2, .inl (b : Int)), (3, .inl ((w : Int) - 1 + 1)), (4, .inl (wst w : Int)), (5, .inl (i : Int))]) 0 ⟨⟨Nat.zero_le _, by omega⟩, fun u hu => absurd hu (Nat.not_lt_zero u)⟩ ?_
    intro i hI2 ih2
    try dsimp only at hI2 ih2 ⊢
    have hi := hI2.1
    refine tt_iload_n X rfl dX10_wordAt_19 ?_
    refine tt_iload X rfl dX10_wordAt_20 ?_
    refine tt_iadd X dX10_wordAt_22 ?_
    refine tt_iload_n X rfl dX10_wordAt_23 ?_
    refine tt_icmp_ge X 60 (by first | omega | (simp (disch := decide) only [ot_rd, ot_rs, ot_rf, ot_ucd, ot_ucs]; omega)) dX10_wordAt_24 (by decide) (fun b24 => ?_) (fun b24 => ?_)
    · refine tt_iload_n X rfl dX10_wordAt_60 ?_
      refine tt_iload X rfl dX10_wordAt_61 ?_
      refine tt_iadd X dX10_wordAt_63 ?_
      refine tt_iload_n X rfl dX10_wordAt_64 ?_
      refine tt_icmp_ne X 87 (by first | omega | (simp (disch := decide) only [ot_rd, ot_rs, ot_rf, ot_ucd, ot_ucs]; omega)) dX10_wordAt_65 (by decide) (fun b65 => ?_) (fun b65 => ?_)
      · refine tt_iload X rfl dX10_wordAt_87 ?_
        refine tt_iconst X dX10_wordAt_89 ?_
        refine tt_iadd X dX10_wordAt_90 ?_
        refine tt_istore X dX10_wordAt_91 (by decide) ?_
        refine tt_loc [(0, _), (1, _), (2, _), (3, _), (4, _)] ⟨rfl, rfl, rfl, rfl, rfl, trivial⟩ ?_
        refine tt_loop (α := Nat) (fun k => wst (w + 1) - k) (fun k => wst w + 1 ≤ k ∧ k ≤ wst (w + 1)) (fun k => μ) (fun k => [(0, .inr 60), (1, .inl (a : Int)), (2, .inl (b : Int)), (3, .inl ((w : Int) - 1 + 1)), (4, .inl (k : Int))]) (wst w + 1) ⟨Nat.le_refl _, by omega⟩ ?_
        intro k hI3 ih3
        try dsimp only at hI3 ih3 ⊢
        refine tt_aload_n X rfl dX10_wordAt_93 ?_
        refine tt_getr X fX10_50 (k_60 _ _) (by decide) ⟨nofun, nofun⟩ rfl dX10_wordAt_94 ?_
        refine tt_iload X rfl dX10_wordAt_97 ?_
        refine tt_iaload X (k_73 _ _) (by first | omega | (simp (disch := decide) only [ot_rd, ot_rs, ot_rf, ot_ucd, ot_ucs]; omega)) dX10_wordAt_99 ?_
        try simp (disch := decide) only [ot_rd, ot_rs, ot_rf, ot_ucd, ot_ucs]
        refine tt_top (y := w2L.getD k 0) (hwd k (by omega)) ?_
        have hwr := w2_rng k
        refine tt_bipush X (by decide) dX10_wordAt_100 ?_
        refine tt_icmp_eq X 114 (by first | omega | (simp (disch := decide) only [ot_rd, ot_rs, ot_rf, ot_ucd, ot_ucs]; omega)) dX10_wordAt_102 (by decide) (fun b102 => ?_) (fun b102 => ?_)
        · refine tt_goto X 5 dX10_wordAt_114 (by decide) ?_
          refine tt_loc [(0, _), (1, _), (2, _), (3, _), (4, _)] ⟨rfl, rfl, rfl, rfl, rfl, trivial⟩ ?_
          have hke : k = wst (w + 1) := by
            apply Classical.byContradiction
            intro hne
            have h1 := hw5.2.2.2.2.1 (k - (wst w + 1)) (by omega)
            rw [show wst w + 1 + (k - (wst w + 1)) = k by omega] at h1
            omega
          subst hke
          have h3 := ih (w + 1) ⟨by omega, fun u hu => ?_⟩ (by omega)
          · rw [show ((w + 1 : Nat) : Int) - 1 = (w : Int) - 1 + 1 by omega] at h3
            exact h3
          by_cases e1 : u = w
          · subst e1
            rw [Bool.eq_false_iff]
            intro q
            have q1 := wdE_len (by omega) hl hab q
            have q2 := wdE_iff.mp q
            first
              | (have h7 := hw5.2.2.2.2.2.2; have hie : i = wln u := by omega
                 subst hie
                 omega)
              | (have q3 := q2.2.1 i (by omega)
                 have q4 := (hw5.2.2.2.2.1 i (by omega)).1
                 omega)
          · exact hI.2 u (by omega)
        · refine tt_iload X rfl dX10_wordAt_105 ?_
          refine tt_iconst X dX10_wordAt_107 ?_
          refine tt_iadd X dX10_wordAt_108 ?_
          refine tt_istore X dX10_wordAt_109 (by decide) ?_
          refine tt_goto X 93 dX10_wordAt_111 (by decide) ?_
          refine tt_loc [(0, _), (1, _), (2, _), (3, _), (4, _)] ⟨rfl, rfl, rfl, rfl, rfl, trivial⟩ ?_
          have hne : k ≠ wst (w + 1) := by
            intro e1
            have h7 := hw5.2.2.2.2.2.2
            rw [← hw5.1, ← e1] at h7
            omega
          exact ih3 (k + 1) ⟨by omega, by omega⟩ (by omega)
      · refine tt_aload_n X rfl dX10_wordAt_68 ?_
        refine tt_getr X fX10_50 (k_60 _ _) (by decide) ⟨nofun, nofun⟩ rfl dX10_wordAt_69 ?_
        refine tt_iload X rfl dX10_wordAt_72 ?_
        refine tt_iconst X dX10_wordAt_74 ?_
        refine tt_iadd X dX10_wordAt_75 ?_
        refine tt_iload X rfl dX10_wordAt_76 ?_
        refine tt_iadd X dX10_wordAt_78 ?_
        refine tt_iaload X (k_73 _ _) (by first | omega | (simp (disch := decide) only [ot_rd, ot_rs, ot_rf, ot_ucd, ot_ucs]; omega)) dX10_wordAt_79 ?_
        try simp (disch := decide) only [ot_rd, ot_rs, ot_rf, ot_ucd, ot_ucs]
        refine tt_top (y := w2L.getD (wst w + 1 + i) 0) (hwd (wst w + 1 + i) (by omega)) ?_
        have hwr := w2_rng (wst w + 1 + i)
        refine tt_bipush X (by decide) dX10_wordAt_80 ?_
        refine tt_icmp_ne X 87 (by first | omega | (simp (disch := decide) only [ot_rd, ot_rs, ot_rf, ot_ucd, ot_ucs]; omega)) dX10_wordAt_82 (by decide) (fun b82 => ?_) (fun b82 => ?_)
        · refine tt_iload X rfl dX10_wordAt_87 ?_
          refine tt_iconst X dX10_wordAt_89 ?_
          refine tt_iadd X dX10_wordAt_90 ?_
          refine tt_istore X dX10_wordAt_91 (by decide) ?_
          refine tt_loc [(0, _), (1, _), (2, _), (3, _), (4, _)] ⟨rfl, rfl, rfl, rfl, rfl, trivial⟩ ?_
          refine tt_loop (α := Nat) (fun k => wst (w + 1) - k) (fun k => wst w + 1 ≤ k ∧ k ≤ wst (w + 1)) (fun k => μ) (fun k => [(0, .inr 60), (1, .inl (a : Int)), (2, .inl (b : Int)), (3, .inl ((w : Int) - 1 + 1)), (4, .inl (k : Int))]) (wst w + 1) ⟨Nat.le_refl _, by omega⟩ ?_
          intro k hI3 ih3
          try dsimp only at hI3 ih3 ⊢
          refine tt_aload_n X rfl dX10_wordAt_93 ?_
          refine tt_getr X fX10_50 (k_60 _ _) (by decide) ⟨nofun, nofun⟩ rfl dX10_wordAt_94 ?_
          refine tt_iload X rfl dX10_wordAt_97 ?_
          refine tt_iaload X (k_73 _ _) (by first | omega | (simp (disch := decide) only [ot_rd, ot_rs, ot_rf, ot_ucd, ot_ucs]; omega)) dX10_wordAt_99 ?_
          try simp (disch := decide) only [ot_rd, ot_rs, ot_rf, ot_ucd, ot_ucs]
          refine tt_top (y := w2L.getD k 0) (hwd k (by omega)) ?_
          have hwr := w2_rng k
          refine tt_bipush X (by decide) dX10_wordAt_100 ?_
          refine tt_icmp_eq X 114 (by first | omega | (simp (disch := decide) only [ot_rd, ot_rs, ot_rf, ot_ucd, ot_ucs]; omega)) dX10_wordAt_102 (by decide) (fun b102 => ?_) (fun b102 => ?_)
          · refine tt_goto X 5 dX10_wordAt_114 (by decide) ?_
            refine tt_loc [(0, _), (1, _), (2, _), (3, _), (4, _)] ⟨rfl, rfl, rfl, rfl, rfl, trivial⟩ ?_
            have hke : k = wst (w + 1) := by
              apply Classical.byContradiction
              intro hne
              have h1 := hw5.2.2.2.2.1 (k - (wst w + 1)) (by omega)
              rw [show wst w + 1 + (k - (wst w + 1)) = k by omega] at h1
              omega
            subst hke
            have h3 := ih (w + 1) ⟨by omega, fun u hu => ?_⟩ (by omega)
            · rw [show ((w + 1 : Nat) : Int) - 1 = (w : Int) - 1 + 1 by omega] at h3
              exact h3
            by_cases e1 : u = w
            · subst e1
              rw [Bool.eq_false_iff]
              intro q
              have q1 := wdE_len (by omega) hl hab q
              have q2 := wdE_iff.mp q
              first
                | (have h7 := hw5.2.2.2.2.2.2; have hie : i = wln u := by omega
                   subst hie
                   omega)
                | (have q3 := q2.2.1 i (by omega)
                   have q4 := (hw5.2.2.2.2.1 i (by omega)).1
                   omega)
            · exact hI.2 u (by omega)
          · refine tt_iload X rfl dX10_wordAt_105 ?_
            refine tt_iconst X dX10_wordAt_107 ?_
            refine tt_iadd X dX10_wordAt_108 ?_
            refine tt_istore X dX10_wordAt_109 (by decide) ?_
            refine tt_goto X 93 dX10_wordAt_111 (by decide) ?_
            refine tt_loc [(0, _), (1, _), (2, _), (3, _), (4, _)] ⟨rfl, rfl, rfl, rfl, rfl, trivial⟩ ?_
            have hne : k ≠ wst (w + 1) := by
              intro e1
              have h7 := hw5.2.2.2.2.2.2
              rw [← hw5.1, ← e1] at h7
              omega
            exact ih3 (k + 1) ⟨by omega, by omega⟩ (by omega)
        · refine tt_iload_n X rfl dX10_wordAt_85 ?_
          refine tt_iret X ⟨hr.1, hr.2.1⟩ (by decide) (by decide) dX10_wordAt_86 ?_
          have hil : a + i = b := by omega
          have hP : wdE T a b w = true := by
            refine wdE_iff.mpr ⟨by omega, fun u hu => ?_, ?_⟩
            · rw [← (hw5.2.2.2.2.1 u (by omega)).1]
              exact hI2.2 u (by omega)
            · have e1 : i = wln w := by
                apply Classical.byContradiction
                intro hne
                have h1 := hw5.2.2.2.2.1 i (by omega)
                omega
              rw [show b - a = wln w by omega]
              exact hw5.2.2.2.2.2.1
          have hk : kwN T a b = w := lsN_eq hP hI.2 14 (by omega)
          refine ⟨rfl, rfl, ?_⟩
          rw [hk, if_pos (by omega)]
          omega
    · refine tt_aload_n X rfl dX10_wordAt_27 ?_
      refine tt_getr X fX10_50 (k_60 _ _) (by decide) ⟨nofun, nofun⟩ rfl dX10_wordAt_28 ?_
      refine tt_iload X rfl dX10_wordAt_31 ?_
      refine tt_iconst X dX10_wordAt_33 ?_
      refine tt_iadd X dX10_wordAt_34 ?_
      refine tt_iload X rfl dX10_wordAt_35 ?_
      refine tt_iadd X dX10_wordAt_37 ?_
      refine tt_iaload X (k_73 _ _) (by first | omega | (simp (disch := decide) only [ot_rd, ot_rs, ot_rf, ot_ucd, ot_ucs]; omega)) dX10_wordAt_38 ?_
      try simp (disch := decide) only [ot_rd, ot_rs, ot_rf, ot_ucd, ot_ucs]
      refine tt_top (y := w2L.getD (wst w + 1 + i) 0) (hwd (wst w + 1 + i) (by omega)) ?_
      refine tt_aload_n X rfl dX10_wordAt_39 ?_
      refine tt_getr X fX10_47 (k_60 _ _) (by decide) ⟨nofun, nofun⟩ rfl dX10_wordAt_40 ?_
      refine tt_iload_n X rfl dX10_wordAt_43 ?_
      refine tt_iload X rfl dX10_wordAt_44 ?_
      refine tt_iadd X dX10_wordAt_46 ?_
      refine tt_iaload X (k_72 _ _) (by first | omega | (simp (disch := decide) only [ot_rd, ot_rs, ot_rf, ot_ucd, ot_ucs]; omega)) dX10_wordAt_47 ?_
      try simp (disch := decide) only [ot_rd, ot_rs, ot_rf, ot_ucd, ot_ucs]
      refine tt_top (y := T (a + i)) (hT (a + i) (by omega)) ?_
      have hTi := hT2 (a + i)
      have hwr := w2_rng (wst w + 1 + i)
      refine tt_icmp_ne X 60 (by first | omega | (simp (disch := decide) only [ot_rd, ot_rs, ot_rf, ot_ucd, ot_ucs]; omega)) dX10_wordAt_48 (by decide) (fun b48 => ?_) (fun b48 => ?_)
      · refine tt_iload_n X rfl dX10_wordAt_60 ?_
        refine tt_iload X rfl dX10_wordAt_61 ?_
        refine tt_iadd X dX10_wordAt_63 ?_
        refine tt_iload_n X rfl dX10_wordAt_64 ?_
        refine tt_icmp_ne X 87 (by first | omega | (simp (disch := decide) only [ot_rd, ot_rs, ot_rf, ot_ucd, ot_ucs]; omega)) dX10_wordAt_65 (by decide) (fun b65 => ?_) (fun b65 => ?_)
        · refine tt_iload X rfl dX10_wordAt_87 ?_
          refine tt_iconst X dX10_wordAt_89 ?_
          refine tt_iadd X dX10_wordAt_90 ?_
          refine tt_istore X dX10_wordAt_91 (by decide) ?_
          refine tt_loc [(0, _), (1, _), (2, _), (3, _), (4, _)] ⟨rfl, rfl, rfl, rfl, rfl, trivial⟩ ?_
          refine tt_loop (α := Nat) (fun k => wst (w + 1) - k) (fun k => wst w + 1 ≤ k ∧ k ≤ wst (w + 1)) (fun k => μ) (fun k => [(0, .inr 60), (1, .inl (a : Int)), (2, .inl (b : Int)), (3, .inl ((w : Int) - 1 + 1)), (4, .inl (k : Int))]) (wst w + 1) ⟨Nat.le_refl _, by omega⟩ ?_
          intro k hI3 ih3
          try dsimp only at hI3 ih3 ⊢
          refine tt_aload_n X rfl dX10_wordAt_93 ?_
          refine tt_getr X fX10_50 (k_60 _ _) (by decide) ⟨nofun, nofun⟩ rfl dX10_wordAt_94 ?_
          refine tt_iload X rfl dX10_wordAt_97 ?_
          refine tt_iaload X (k_73 _ _) (by first | omega | (simp (disch := decide) only [ot_rd, ot_rs, ot_rf, ot_ucd, ot_ucs]; omega)) dX10_wordAt_99 ?_
          try simp (disch := decide) only [ot_rd, ot_rs, ot_rf, ot_ucd, ot_ucs]
          refine tt_top (y := w2L.getD k 0) (hwd k (by omega)) ?_
          have hwr := w2_rng k
          refine tt_bipush X (by decide) dX10_wordAt_100 ?_
          refine tt_icmp_eq X 114 (by first | omega | (simp (disch := decide) only [ot_rd, ot_rs, ot_rf, ot_ucd, ot_ucs]; omega)) dX10_wordAt_102 (by decide) (fun b102 => ?_) (fun b102 => ?_)
          · refine tt_goto X 5 dX10_wordAt_114 (by decide) ?_
            refine tt_loc [(0, _), (1, _), (2, _), (3, _), (4, _)] ⟨rfl, rfl, rfl, rfl, rfl, trivial⟩ ?_
            have hke : k = wst (w + 1) := by
              apply Classical.byContradiction
              intro hne
              have h1 := hw5.2.2.2.2.1 (k - (wst w + 1)) (by omega)
              rw [show wst w + 1 + (k - (wst w + 1)) = k by omega] at h1
              omega
            subst hke
            have h3 := ih (w + 1) ⟨by omega, fun u hu => ?_⟩ (by omega)
            · rw [show ((w + 1 : Nat) : Int) - 1 = (w : Int) - 1 + 1 by omega] at h3
              exact h3
            by_cases e1 : u = w
            · subst e1
              rw [Bool.eq_false_iff]
              intro q
              have q1 := wdE_len (by omega) hl hab q
              have q2 := wdE_iff.mp q
              first
                | (have h7 := hw5.2.2.2.2.2.2; have hie : i = wln u := by omega
                   subst hie
                   omega)
                | (have q3 := q2.2.1 i (by omega)
                   have q4 := (hw5.2.2.2.2.1 i (by omega)).1
                   omega)
            · exact hI.2 u (by omega)
          · refine tt_iload X rfl dX10_wordAt_105 ?_
            refine tt_iconst X dX10_wordAt_107 ?_
            refine tt_iadd X dX10_wordAt_108 ?_
            refine tt_istore X dX10_wordAt_109 (by decide) ?_
            refine tt_goto X 93 dX10_wordAt_111 (by decide) ?_
            refine tt_loc [(0, _), (1, _), (2, _), (3, _), (4, _)] ⟨rfl, rfl, rfl, rfl, rfl, trivial⟩ ?_
            have hne : k ≠ wst (w + 1) := by
              intro e1
              have h7 := hw5.2.2.2.2.2.2
              rw [← hw5.1, ← e1] at h7
              omega
            exact ih3 (k + 1) ⟨by omega, by omega⟩ (by omega)
        · refine tt_aload_n X rfl dX10_wordAt_68 ?_
          refine tt_getr X fX10_50 (k_60 _ _) (by decide) ⟨nofun, nofun⟩ rfl dX10_wordAt_69 ?_
          refine tt_iload X rfl dX10_wordAt_72 ?_
          refine tt_iconst X dX10_wordAt_74 ?_
          refine tt_iadd X dX10_wordAt_75 ?_
          refine tt_iload X rfl dX10_wordAt_76 ?_
          refine tt_iadd X dX10_wordAt_78 ?_
          refine tt_iaload X (k_73 _ _) (by first | omega | (simp (disch := decide) only [ot_rd, ot_rs, ot_rf, ot_ucd, ot_ucs]; omega)) dX10_wordAt_79 ?_
          try simp (disch := decide) only [ot_rd, ot_rs, ot_rf, ot_ucd, ot_ucs]
          refine tt_top (y := w2L.getD (wst w + 1 + i) 0) (hwd (wst w + 1 + i) (by omega)) ?_
          have hwr := w2_rng (wst w + 1 + i)
          refine tt_bipush X (by decide) dX10_wordAt_80 ?_
          refine tt_icmp_ne X 87 (by first | omega | (simp (disch := decide) only [ot_rd, ot_rs, ot_rf, ot_ucd, ot_ucs]; omega)) dX10_wordAt_82 (by decide) (fun b82 => ?_) (fun b82 => ?_)
          · refine tt_iload X rfl dX10_wordAt_87 ?_
            refine tt_iconst X dX10_wordAt_89 ?_
            refine tt_iadd X dX10_wordAt_90 ?_
            refine tt_istore X dX10_wordAt_91 (by decide) ?_
            refine tt_loc [(0, _), (1, _), (2, _), (3, _), (4, _)] ⟨rfl, rfl, rfl, rfl, rfl, trivial⟩ ?_
            refine tt_loop (α := Nat) (fun k => wst (w + 1) - k) (fun k => wst w + 1 ≤ k ∧ k ≤ wst (w + 1)) (fun k => μ) (fun k => [(0, .inr 60), (1, .inl (a : Int)), (2, .inl (b : Int)), (3, .inl ((w : Int) - 1 + 1)), (4, .inl (k : Int))]) (wst w + 1) ⟨Nat.le_refl _, by omega⟩ ?_
            intro k hI3 ih3
            try dsimp only at hI3 ih3 ⊢
            refine tt_aload_n X rfl dX10_wordAt_93 ?_
            refine tt_getr X fX10_50 (k_60 _ _) (by decide) ⟨nofun, nofun⟩ rfl dX10_wordAt_94 ?_
            refine tt_iload X rfl dX10_wordAt_97 ?_
            refine tt_iaload X (k_73 _ _) (by first | omega | (simp (disch := decide) only [ot_rd, ot_rs, ot_rf, ot_ucd, ot_ucs]; omega)) dX10_wordAt_99 ?_
            try simp (disch := decide) only [ot_rd, ot_rs, ot_rf, ot_ucd, ot_ucs]
            refine tt_top (y := w2L.getD k 0) (hwd k (by omega)) ?_
            have hwr := w2_rng k
            refine tt_bipush X (by decide) dX10_wordAt_100 ?_
            refine tt_icmp_eq X 114 (by first | omega | (simp (disch := decide) only [ot_rd, ot_rs, ot_rf, ot_ucd, ot_ucs]; omega)) dX10_wordAt_102 (by decide) (fun b102 => ?_) (fun b102 => ?_)
            · refine tt_goto X 5 dX10_wordAt_114 (by decide) ?_
              refine tt_loc [(0, _), (1, _), (2, _), (3, _), (4, _)] ⟨rfl, rfl, rfl, rfl, rfl, trivial⟩ ?_
              have hke : k = wst (w + 1) := by
                apply Classical.byContradiction
                intro hne
                have h1 := hw5.2.2.2.2.1 (k - (wst w + 1)) (by omega)
                rw [show wst w + 1 + (k - (wst w + 1)) = k by omega] at h1
                omega
              subst hke
              have h3 := ih (w + 1) ⟨by omega, fun u hu => ?_⟩ (by omega)
              · rw [show ((w + 1 : Nat) : Int) - 1 = (w : Int) - 1 + 1 by omega] at h3
                exact h3
              by_cases e1 : u = w
              · subst e1
                rw [Bool.eq_false_iff]
                intro q
                have q1 := wdE_len (by omega) hl hab q
                have q2 := wdE_iff.mp q
                first
                  | (have h7 := hw5.2.2.2.2.2.2; have hie : i = wln u := by omega
                     subst hie
                     omega)
                  | (have q3 := q2.2.1 i (by omega)
                     have q4 := (hw5.2.2.2.2.1 i (by omega)).1
                     omega)
              · exact hI.2 u (by omega)
            · refine tt_iload X rfl dX10_wordAt_105 ?_
              refine tt_iconst X dX10_wordAt_107 ?_
              refine tt_iadd X dX10_wordAt_108 ?_
              refine tt_istore X dX10_wordAt_109 (by decide) ?_
              refine tt_goto X 93 dX10_wordAt_111 (by decide) ?_
              refine tt_loc [(0, _), (1, _), (2, _), (3, _), (4, _)] ⟨rfl, rfl, rfl, rfl, rfl, trivial⟩ ?_
              have hne : k ≠ wst (w + 1) := by
                intro e1
                have h7 := hw5.2.2.2.2.2.2
                rw [← hw5.1, ← e1] at h7
                omega
              exact ih3 (k + 1) ⟨by omega, by omega⟩ (by omega)
          · refine tt_iload_n X rfl dX10_wordAt_85 ?_
            refine tt_iret X ⟨hr.1, hr.2.1⟩ (by decide) (by decide) dX10_wordAt_86 ?_
            have hil : a + i = b := by omega
            have hP : wdE T a b w = true := by
              refine wdE_iff.mpr ⟨by omega, fun u hu => ?_, ?_⟩
              · rw [← (hw5.2.2.2.2.1 u (by omega)).1]
                exact hI2.2 u (by omega)
              · have e1 : i = wln w := by
                  apply Classical.byContradiction
                  intro hne
                  have h1 := hw5.2.2.2.2.1 i (by omega)
                  omega
                rw [show b - a = wln w by omega]
                exact hw5.2.2.2.2.2.1
            have hk : kwN T a b = w := lsN_eq hP hI.2 14 (by omega)
            refine ⟨rfl, rfl, ?_⟩
            rw [hk, if_pos (by omega)]
            omega
      · refine tt_iload X rfl dX10_wordAt_51 ?_
        refine tt_iconst X dX10_wordAt_53 ?_
        refine tt_iadd X dX10_wordAt_54 ?_
        refine tt_istore X dX10_wordAt_55 (by decide) ?_
        refine tt_goto X 19 dX10_wordAt_57 (by decide) ?_
        refine tt_loc [(0, _), (1, _), (2, _), (3, _), (4, _), (5, _)] ⟨rfl, rfl, rfl, rfl, rfl, rfl, trivial⟩ ?_
        have hil : i ≠ wln w := by
          intro e1
          subst e1
          have q := hl (a + wln w) (by omega) (by omega)
          have h7 := hw5.2.2.2.2.2.2
          rw [show T (a + wln w) = 32 by omega] at q
          exact absurd q (by decide)
        refine ih2 (i + 1) ⟨by omega, fun u hu => ?_⟩ (by omega)
        by_cases e1 : u = i
        · subst e1; omega
        · exact hI2.2 u (by omega)

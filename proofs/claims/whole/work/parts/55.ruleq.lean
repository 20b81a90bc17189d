/-- rows of bits that hold the lines of the first m pins, both ways -/
def gE (k s n m : Int) (F : Int → Int) : Prop := ∀ a, 0 ≤ a → a < n → (0 ≤ F a ∧ F a < 16777216) ∧ ∀ b, 0 ≤ b → (bt (F a) b = true ↔ b < n ∧ eP k s n m a b = true)
theorem gE_set {k s n m j : Int} {F : Int → Int} (hn : 0 < n ∧ n ≤ 24) (hm : 0 ≤ m ∧ m < n) (h : gE k s n m F) (hj : j = rlf k s n m) (hne : j ≠ m) : gE k s n (m + 1) (up1 (up1 F m (ot_or (F m) (ot_shl 1 j))) j (ot_or (F j) (ot_shl 1 m))) := by
  have hjr := rlf_in (k := k) (s := s) (i := m) hn.1
  rw [← hj] at hjr
  intro a a1 a2
  by_cases e1 : a = j
  · subst e1
    rw [up1_s]
    have ha := h a a1 a2
    refine ⟨bt_or_rng (n := 24) (by decide) (by omega) (by omega), fun b b1 => ?_⟩
    rw [bt_or (by omega) (by omega) b1, Bool.or_eq_true, ha.2 b b1, decide_eq_true_eq, eP_step, ← hj]
    constructor
    · rintro (w | w)
      · exact ⟨w.1, Or.inl w.2⟩
      · exact ⟨by omega, Or.inr ⟨hne, Or.inr ⟨w, rfl⟩⟩⟩
    · rintro ⟨w1, w2 | w2⟩
      · exact Or.inl ⟨w1, w2⟩
      · rcases w2.2 with q | q
        · exact absurd q.1 hne
        · exact Or.inr q.1
  · rw [up1_n e1]
    by_cases e2 : a = m
    · subst e2
      rw [up1_s]
      have ha := h a a1 a2
      refine ⟨bt_or_rng (n := 24) (by decide) (by omega) (by omega), fun b b1 => ?_⟩
      rw [bt_or (by omega) (by omega) b1, Bool.or_eq_true, ha.2 b b1, decide_eq_true_eq, eP_step, ← hj]
      constructor
      · rintro (w | w)
        · exact ⟨w.1, Or.inl w.2⟩
        · exact ⟨by omega, Or.inr ⟨hne, Or.inl ⟨rfl, w⟩⟩⟩
      · rintro ⟨w1, w2 | w2⟩
        · exact Or.inl ⟨w1, w2⟩
        · rcases w2.2 with q | q
          · exact Or.inr q.2
          · exact absurd q.2 e1
    · rw [up1_n e2]
      have ha := h a a1 a2
      refine ⟨ha.1, fun b b1 => ?_⟩
      rw [ha.2 b b1, eP_step, ← hj]
      constructor
      · exact fun w => ⟨w.1, Or.inl w.2⟩
      · rintro ⟨w1, w2 | w2⟩
        · exact ⟨w1, w2⟩
        · rcases w2.2 with q | q
          · exact absurd q.1 e2
          · exact absurd q.2 e1
theorem gE_skip {k s n m : Int} {F : Int → Int} (h : gE k s n m F) (hj : rlf k s n m = m) : gE k s n (m + 1) F := by
  intro a a1 a2
  have ha := h a a1 a2
  refine ⟨ha.1, fun b b1 => ?_⟩
  rw [ha.2 b b1, eP_step]
  constructor
  · exact fun w => ⟨w.1, Or.inl w.2⟩
  · rintro ⟨w1, w2 | w2⟩
    · exact ⟨w1, w2⟩
    · exact absurd hj w2.1
theorem sumN_ext0 {f : Int → Int} : ∀ {n m : Nat}, n ≤ m → (∀ i : Int, (n : Int) ≤ i → i < m → f i = 0) → sumN f m = sumN f n
  | n, 0, h, _ => by rw [show n = 0 by omega]
  | n, m + 1, h, hz => by
    by_cases e : n = m + 1
    · rw [e]
    · rw [sumN_succ, hz m (by omega) (by omega), Int.add_zero]
      exact sumN_ext0 (by omega) (fun i h1 h2 => hz i h1 (by omega))
theorem pop_gE {k s n a : Int} {F : Int → Int} (hn : 0 < n ∧ n ≤ 24) (h : gE k s n n F) (ha : 0 ≤ a ∧ a < n) : pop (F a) = sumN (fun b => if eP k s n n a b then 1 else 0) n.toNat := by
  have hh := (h a ha.1 ha.2).2
  unfold pop
  rw [sumN_ext0 (n := n.toNat) (by omega) (fun i h1 h2 => by
    have e : bt (F a) i = false := by
      rw [Bool.eq_false_iff]
      intro w
      have := (hh i (by omega)).mp w
      omega
    rw [e]; rfl)]
  refine sumN_congr (fun b b1 b2 => ?_)
  have := hh b b1
  by_cases e : eP k s n n a b = true
  · rw [this.mpr ⟨by omega, e⟩, e]
  · have e2 : bt (F a) b = false := by
      rw [Bool.eq_false_iff]
      exact fun w => e (this.mp w).2
    rw [e2, Bool.eq_false_iff.mpr e]
def lstT (k s n r : Int) : Prop := (1 ≤ r ∧ r ≤ n) ∧ sameT k s n r ∧ ∀ u, 1 ≤ u → u < r → ¬ sameT k s n u
set_option maxRecDepth 100000 in
set_option maxHeartbeats 1000000 in
theorem q_ones (l : Launch) (g : ot_G) (ln : Nat) (ext : ot_L) (μ : ot_M) (x : Int) (hx : 0 ≤ x ∧ x < 2147483648) : ot_C l g yX10_ones cX10_ones 4 (some .int) 0 0 0 [.inr 60, .inl x] (LL ln ext) μ (ot_pi (fun r L2 μ2 => L2 = LL ln ext ∧ μ2 = μ ∧ r = pop x)) := by
  refine ot_enter (by decide) (Nat.le_of_ble_eq_true rfl) ?_
  intro p e s m args below meth c X hr
  refine tt_iconst X dX10_ones_0 ?_
  refine tt_istore_n X dX10_ones_1 (by decide) ?_
  refine tt_iload_n X rfl dX10_ones_2 ?_
  refine tt_istore_n X dX10_ones_3 (by decide) ?_
  refine tt_loc [(0, _), (2, _), (3, _)] ⟨rfl, rfl, rfl, trivial⟩ ?_
  refine tt_loop (α := Int × Int) (fun ((y, v)) => v.toNat) (fun ((y, v)) => (0 ≤ v ∧ v < 2147483648) ∧ y + pop v = pop x) (fun ((y, v)) => μ) (fun ((y, v)) => [(0, .inr 60), (2, .inl y), (3, .inl v)]) (0, x) ⟨hx, Int.zero_add _⟩ ?_
  intro a hI ih
  obtain ⟨y, v⟩ := a
  try dsimp only at hI ih ⊢
  replace hI : (0 ≤ v ∧ v < 2147483648) ∧ y + pop v = pop x := hI
  have hv := hI.1
  refine tt_iload_n X rfl dX10_ones_4 ?_
  refine tt_if_eq X 21 (by first | omega | (simp (disch := decide) only [ot_rd, ot_rs, ot_rf, ot_ucd, ot_ucs]; omega)) dX10_ones_5 (by decide) (fun b5 => ?_) (fun b5 => ?_)
  · refine tt_iload_n X rfl dX10_ones_21 ?_
    refine tt_iret X ⟨hr.1, hr.2.1⟩ (by decide) (by decide) dX10_ones_22 ?_
    refine ⟨rfl, rfl, ?_⟩
    have := hI.2
    rw [b5, pop_0] at this
    omega
  · refine tt_iload_n X rfl dX10_ones_8 ?_
    refine tt_iconst X dX10_ones_9 ?_
    refine tt_iadd X dX10_ones_10 ?_
    refine tt_istore_n X dX10_ones_11 (by decide) ?_
    refine tt_iload_n X rfl dX10_ones_12 ?_
    refine tt_iload_n X rfl dX10_ones_13 ?_
    refine tt_iconst X dX10_ones_14 ?_
    refine tt_isub X dX10_ones_15 ?_
    refine tt_iand X dX10_ones_16 ?_
    refine tt_istore_n X dX10_ones_17 (by decide) ?_
    refine tt_goto X 4 dX10_ones_18 (by decide) ?_
    refine tt_loc [(0, _), (2, _), (3, _)] ⟨rfl, rfl, rfl, trivial⟩ ?_
    have hp := pop_low (x := v) (by omega)
    exact ih (y + 1, ot_and v (v - 1)) ⟨by show 0 ≤ ot_and v (v - 1) ∧ ot_and v (v - 1) < 2147483648; omega, by show y + 1 + pop (ot_and v (v - 1)) = pop x; have := hI.2; omega⟩ (by show (ot_and v (v - 1)).toNat < v.toNat; omega)
set_option maxRecDepth 100000 in
set_option maxHeartbeats 1000000 in
theorem q_findsRule (l : Launch) (g : ot_G) (ln : Nat) (ext : ot_L) (μ : ot_M) (k s0 : Int) (hN : 0 < μ 60 2 ∧ μ 60 2 ≤ 24) (hk : 0 ≤ k ∧ k ≤ 99) (hs : 0 ≤ s0 ∧ s0 ≤ 99)  : ot_C l g yX10_findsRule cX10_findsRule 5 none 0 0 0 [.inr 60, .inl k, .inl s0] (LL ln ext) μ (ot_pv (fun L2 μ2 => L2 = LL ln ext ∧ ∃ F, gE k s0 (μ 60 2) (μ 60 2) F ∧ μ2 = ot_uc μ 86 F)) := by
  refine ot_enter (by decide) (Nat.le_of_ble_eq_true rfl) ?_
  intro p e s m args below meth c X hr
  refine tt_iconst X dX10_findsRule_0 ?_
  refine tt_istore_n X dX10_findsRule_1 (by decide) ?_
  refine tt_mem (μ' := ot_uc μ 86 (wr 0 (μ 86) (fun _ => 0))) (by rw [wr_zero, ot_uc_self]) ?_
  refine tt_loc [(0, _), (1, _), (2, _), (3, _)] ⟨rfl, rfl, rfl, rfl, trivial⟩ ?_
  refine tt_loop (α := Int) (fun i => (μ 60 2 - i).toNat) (fun i => 0 ≤ i ∧ i ≤ μ 60 2) (fun i => ot_uc μ 86 (wr i (μ 86) (fun _ => 0))) (fun i => [(0, .inr 60), (1, .inl k), (2, .inl s0), (3, .inl i)]) 0 (by omega) ?_
  intro i hI ih
  try dsimp only at hI ih ⊢
  refine tt_iload_n X rfl dX10_findsRule_2 ?_
  refine tt_aload_n X rfl dX10_findsRule_3 ?_
  refine tt_geti X fX10_101 (k_60 _ _) (by decide) (Or.inl rfl) dX10_findsRule_4 ?_
  try simp (disch := decide) only [ot_rd, ot_rs, ot_rf, ot_ucd, ot_ucs]
  refine tt_icmp_ge X 23 (by first | omega | (simp (disch := decide) only [ot_rd, ot_rs, ot_rf, ot_ucd, ot_ucs]; omega)) dX10_findsRule_7 (by decide) (fun b7 => ?_) (fun b7 => ?_)
  · refine tt_iconst X dX10_findsRule_23 ?_
    refine tt_istore_n X dX10_findsRule_24 (by decide) ?_
    refine tt_mem (μ' := ot_uc μ 86 (wr (μ 60 2) (μ 86) (fun _ => 0))) (by rw [show i = μ 60 2 by omega]) ?_
    refine tt_loc [(0, _), (1, _), (2, _), (3, _)] ⟨rfl, rfl, rfl, rfl, trivial⟩ ?_
    refine tt_loop (α := Int × (Int → Int)) (fun ((i, F)) => (μ 60 2 - i).toNat) (fun ((i, F)) => (0 ≤ i ∧ i ≤ μ 60 2) ∧ gE k s0 (μ 60 2) i F) (fun ((i, F)) => ot_uc μ 86 F) (fun ((i, F)) => [(0, .inr 60), (1, .inl k), (2, .inl s0), (3, .inl i)]) (0, wr (μ 60 2) (μ 86) (fun _ => 0)) ⟨by show 0 ≤ (0 : Int) ∧ (0 : Int) ≤ μ 60 2; omega, fun a a1 a2 => by rw [wr_in ⟨a1, a2⟩]; exact ⟨by decide, fun b b1 => by rw [bt_zero, eP_zero a1 b1]; simp⟩⟩ ?_
    intro a hI ih
    obtain ⟨i, F⟩ := a
    try dsimp only at hI ih ⊢
    replace hI : (0 ≤ i ∧ i ≤ μ 60 2) ∧ gE k s0 (μ 60 2) i F := hI
    have hi := hI.1
    have hki : 0 ≤ k * i ∧ k * i ≤ 99 * 24 := ⟨Int.mul_nonneg hk.1 hi.1, Int.mul_le_mul hk.2 (by omega) hi.1 (by omega)⟩
    have hrl := rlf_in (k := k) (s := s0) (i := i) hN.1
    unfold rlf at hrl
    refine tt_iload_n X rfl dX10_findsRule_25 ?_
    refine tt_aload_n X rfl dX10_findsRule_26 ?_
    refine tt_geti X fX10_101 (k_60 _ _) (by decide) (Or.inl rfl) dX10_findsRule_27 ?_
    try simp (disch := decide) only [ot_rd, ot_rs, ot_rf, ot_ucd, ot_ucs]
    refine tt_icmp_ge X 95 (by first | omega | (simp (disch := decide) only [ot_rd, ot_rs, ot_rf, ot_ucd, ot_ucs]; omega)) dX10_findsRule_30 (by decide) (fun b30 => ?_) (fun b30 => ?_)
    · refine tt_vret X ⟨hr.1, hr.2.1⟩ (by decide) (by decide) dX10_findsRule_95 ?_
      refine ⟨rfl, F, ?_, rfl⟩
      have := hI.2
      rw [show i = μ 60 2 by omega] at this
      exact this
    · refine tt_iload_n X rfl dX10_findsRule_33 ?_
      refine tt_iload_n X rfl dX10_findsRule_34 ?_
      refine tt_imul X dX10_findsRule_35 ?_
      refine tt_iload_n X rfl dX10_findsRule_36 ?_
      refine tt_iadd X dX10_findsRule_37 ?_
      refine tt_aload_n X rfl dX10_findsRule_38 ?_
      refine tt_geti X fX10_101 (k_60 _ _) (by decide) (Or.inl rfl) dX10_findsRule_39 ?_
      try simp (disch := decide) only [ot_rd, ot_rs, ot_rf, ot_ucd, ot_ucs]
      refine tt_irem X (by omega) dX10_findsRule_42 ?_
      refine tt_top (bo_rem (by omega) (by omega)) ?_
      refine tt_istore X dX10_findsRule_43 (by decide) ?_
      refine tt_iload X rfl dX10_findsRule_45 ?_
      refine tt_iload_n X rfl dX10_findsRule_47 ?_
      refine tt_icmp_ne X 54 (by first | omega | (simp (disch := decide) only [ot_rd, ot_rs, ot_rf, ot_ucd, ot_ucs]; omega)) dX10_findsRule_48 (by decide) (fun b48 => ?_) (fun b48 => ?_)
      · refine tt_aload_n X rfl dX10_findsRule_54 ?_
        refine tt_getr X fX10_92 (k_60 _ _) (by decide) ⟨nofun, nofun⟩ rfl dX10_findsRule_55 ?_
        refine tt_iload_n X rfl dX10_findsRule_58 ?_
        refine tt_aload_n X rfl dX10_findsRule_59 ?_
        refine tt_getr X fX10_92 (k_60 _ _) (by decide) ⟨nofun, nofun⟩ rfl dX10_findsRule_60 ?_
        refine tt_iload_n X rfl dX10_findsRule_63 ?_
        refine tt_iaload X (k_86 _ _) (by first | omega | (simp (disch := decide) only [ot_rd, ot_rs, ot_rf, ot_ucd, ot_ucs]; omega)) dX10_findsRule_64 ?_
        try simp (disch := decide) only [ot_rd, ot_rs, ot_rf, ot_ucd, ot_ucs]
        refine tt_iconst X dX10_findsRule_65 ?_
        refine tt_iload X rfl dX10_findsRule_66 ?_
        refine tt_ishl X dX10_findsRule_68 ?_
        refine tt_ior X dX10_findsRule_69 ?_
        refine tt_iastore X (k_86 _ _) (by first | omega | (simp (disch := decide) only [ot_rd, ot_rs, ot_rf, ot_ucd, ot_ucs]; omega)) dX10_findsRule_70 ?_
        refine tt_aload_n X rfl dX10_findsRule_71 ?_
        refine tt_getr X fX10_92 (k_60 _ _) (by decide) ⟨nofun, nofun⟩ rfl dX10_findsRule_72 ?_
        refine tt_iload X rfl dX10_findsRule_75 ?_
        refine tt_aload_n X rfl dX10_findsRule_77 ?_
        refine tt_getr X fX10_92 (k_60 _ _) (by decide) ⟨nofun, nofun⟩ rfl dX10_findsRule_78 ?_
        refine tt_iload X rfl dX10_findsRule_81 ?_
        refine tt_iaload X (k_86 _ _) (by first | omega | (simp (disch := decide) only [ot_rd, ot_rs, ot_rf, ot_ucd, ot_ucs]; omega)) dX10_findsRule_83 ?_
        try simp (disch := decide) only [ot_rd, ot_rs, ot_rf, ot_ucd, ot_ucs]
        refine tt_iconst X dX10_findsRule_84 ?_
        refine tt_iload_n X rfl dX10_findsRule_85 ?_
        refine tt_ishl X dX10_findsRule_86 ?_
        refine tt_ior X dX10_findsRule_87 ?_
        refine tt_iastore X (k_86 _ _) (by first | omega | (simp (disch := decide) only [ot_rd, ot_rs, ot_rf, ot_ucd, ot_ucs]; omega)) dX10_findsRule_88 ?_
        refine tt_iinc X dX10_findsRule_89 rfl (by decide) ?_
        refine tt_goto X 25 dX10_findsRule_92 (by decide) ?_
        refine tt_loc [(0, _), (1, _), (2, _), (3, _)] ⟨rfl, rfl, rfl, rfl, trivial⟩ ?_
        first
          | exact ih (i + 1, F) ⟨by show 0 ≤ i + 1 ∧ i + 1 ≤ μ 60 2; omega, gE_skip hI.2 (by unfold rlf; omega)⟩ (by show (μ 60 2 - (i + 1)).toNat < (μ 60 2 - i).toNat; omega)
          | (refine tt_mem (μ' := ot_uc μ 86 (up1 (up1 F i (ot_or (F i) (ot_shl 1 ((k * i + s0) % μ 60 2)))) ((k * i + s0) % μ 60 2) (ot_or (F ((k * i + s0) % μ 60 2)) (ot_shl 1 i)))) ?_ ?_
             · rw [ot_uc_up, ot_uc_up]
               refine ot_uc_eq (fun j => ?_)
               simp only [up1, ot_ucs]
               by_cases w1 : j = (k * i + s0) % μ 60 2
               · subst w1; simp [b48]
               · simp [w1]
             exact ih (i + 1, _) ⟨by show 0 ≤ i + 1 ∧ i + 1 ≤ μ 60 2; omega, gE_set hN (by omega) hI.2 rfl b48⟩ (by show (μ 60 2 - (i + 1)).toNat < (μ 60 2 - i).toNat; omega))
      · refine tt_goto X 89 dX10_findsRule_51 (by decide) ?_
        refine tt_iinc X dX10_findsRule_89 rfl (by decide) ?_
        refine tt_goto X 25 dX10_findsRule_92 (by decide) ?_
        refine tt_loc [(0, _), (1, _), (2, _), (3, _)] ⟨rfl, rfl, rfl, rfl, trivial⟩ ?_
        first
          | exact ih (i + 1, F) ⟨by show 0 ≤ i + 1 ∧ i + 1 ≤ μ 60 2; omega, gE_skip hI.2 (by unfold rlf; omega)⟩ (by show (μ 60 2 - (i + 1)).toNat < (μ 60 2 - i).toNat; omega)
          | (refine tt_mem (μ' := ot_uc μ 86 (up1 (up1 F i (ot_or (F i) (ot_shl 1 ((k * i + s0) % μ 60 2)))) ((k * i + s0) % μ 60 2) (ot_or (F ((k * i + s0) % μ 60 2)) (ot_shl 1 i)))) ?_ ?_
             · rw [ot_uc_up, ot_uc_up]
               refine ot_uc_eq (fun j => ?_)
               simp only [up1, ot_ucs]
               by_cases w1 : j = (k * i + s0) % μ 60 2
               · subst w1; simp [b48]
               · simp [w1]
             exact ih (i + 1, _) ⟨by show 0 ≤ i + 1 ∧ i + 1 ≤ μ 60 2; omega, gE_set hN (by omega) hI.2 rfl b48⟩ (by show (μ 60 2 - (i + 1)).toNat < (μ 60 2 - i).toNat; omega))
  · refine tt_aload_n X rfl dX10_findsRule_10 ?_
    refine tt_getr X fX10_92 (k_60 _ _) (by decide) ⟨nofun, nofun⟩ rfl dX10_findsRule_11 ?_
    refine tt_iload_n X rfl dX10_findsRule_14 ?_
    refine tt_iconst X dX10_findsRule_15 ?_
    refine tt_iastore X (k_86 _ _) (by first | omega | (simp (disch := decide) only [ot_rd, ot_rs, ot_rf, ot_ucd, ot_ucs]; omega)) dX10_findsRule_16 ?_
    refine tt_iinc X dX10_findsRule_17 rfl (by decide) ?_
    refine tt_goto X 2 dX10_findsRule_20 (by decide) ?_
    refine tt_loc [(0, _), (1, _), (2, _), (3, _)] ⟨rfl, rfl, rfl, rfl, trivial⟩ ?_
    refine tt_mem (μ' := ot_uc μ 86 (wr (i + 1) (μ 86) (fun _ => 0))) (ot_uc_wr hI.1 rfl) ?_
    exact ih (i + 1) (by omega) (by omega)

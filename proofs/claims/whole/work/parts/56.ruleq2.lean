theorem gE_bt {k s n a b : Int} {F : Int → Int} (h : gE k s n n F) (ha : 0 ≤ a ∧ a < n) (hb : 0 ≤ b ∧ b < n) : bt (F a) b = eP k s n n a b := by
  rw [Bool.eq_iff_iff, (h a ha.1 ha.2).2 b hb.1]
  exact ⟨fun w => w.2, fun w => ⟨hb.2, w⟩⟩
theorem ite_inj {a b : Bool} : ((if a then 1 else 0 : Int) = (if b then 1 else 0)) ↔ a = b := by cases a <;> cases b <;> simp
set_option maxRecDepth 100000 in
set_option maxHeartbeats 1000000 in
theorem q_areSame (l : Launch) (g : ot_G) (ln : Nat) (ext : ot_L) (μ : ot_M) (k s0 t : Int) (hN : 0 < μ 60 2 ∧ μ 60 2 ≤ 24) (ht : 1 ≤ t ∧ t ≤ μ 60 2) (hE : gE k s0 (μ 60 2) (μ 60 2) (μ 86)) : ot_C l g yX10_areSame cX10_areSame 4 (some .boolean) 0 0 0 [.inr 60, .inl t] (LL ln ext) μ (ot_pi (fun r L2 μ2 => L2 = LL ln ext ∧ μ2 = μ ∧ (r = 0 ∨ r = 1) ∧ ot_im r 1 (sameT k s0 (μ 60 2) t) ∧ ot_im r 0 (¬ sameT k s0 (μ 60 2) t))) := by
  refine ot_enter (by decide) (Nat.le_of_ble_eq_true rfl) ?_
  intro p e s m args below meth c X hr
  refine tt_iconst X dX10_areSame_0 ?_
  refine tt_istore_n X dX10_areSame_1 (by decide) ?_
  refine tt_loc [(0, _), (1, _), (2, _)] ⟨rfl, rfl, rfl, trivial⟩ ?_
  refine tt_loop (α := Int) (fun i => (μ 60 2 - i).toNat) (fun i => (0 ≤ i ∧ i ≤ μ 60 2) ∧ ∀ a b, 0 ≤ a → a < i → 0 ≤ b → b < μ 60 2 → eP k s0 (μ 60 2) (μ 60 2) a b = eP k s0 (μ 60 2) (μ 60 2) ((a + t) % (μ 60 2)) ((b + t) % (μ 60 2))) (fun i => μ) (fun i => [(0, .inr 60), (1, .inl t), (2, .inl i)]) 0 ⟨by omega, fun a b a1 a2 => by omega⟩ ?_
  intro i hIi ihi
  try dsimp only at hIi ihi ⊢
  have hi := hIi.1
  refine tt_iload_n X rfl dX10_areSame_2 ?_
  refine tt_aload_n X rfl dX10_areSame_3 ?_
  refine tt_geti X fX10_101 (k_60 _ _) (by decide) (Or.inl rfl) dX10_areSame_4 ?_
  try simp (disch := decide) only [ot_rd, ot_rs, ot_rf, ot_ucd, ot_ucs]
  refine tt_icmp_ge X 71 (by first | omega | (simp (disch := decide) only [ot_rd, ot_rs, ot_rf, ot_ucd, ot_ucs]; omega)) dX10_areSame_7 (by decide) (fun b7 => ?_) (fun b7 => ?_)
  · refine tt_iconst X dX10_areSame_71 ?_
    refine tt_zret X ⟨hr.1, hr.2.1⟩ (by omega) (by decide) (by decide) dX10_areSame_72 ?_
    exact ⟨rfl, rfl, by omega, fun _ a b a1 a2 b1 b2 => hIi.2 a b a1 (by omega) b1 b2, fun w => by omega⟩
  · refine tt_iconst X dX10_areSame_10 ?_
    refine tt_istore_n X dX10_areSame_11 (by decide) ?_
    refine tt_loc [(0, _), (1, _), (2, _), (3, _)] ⟨rfl, rfl, rfl, rfl, trivial⟩ ?_
    refine tt_loop (α := Int) (fun j => (μ 60 2 - j).toNat) (fun j => (0 ≤ j ∧ j ≤ μ 60 2) ∧ ∀ b, 0 ≤ b → b < j → eP k s0 (μ 60 2) (μ 60 2) i b = eP k s0 (μ 60 2) (μ 60 2) ((i + t) % (μ 60 2)) ((b + t) % (μ 60 2))) (fun j => μ) (fun j => [(0, .inr 60), (1, .inl t), (2, .inl i), (3, .inl j)]) 0 ⟨by omega, fun b b1 b2 => by omega⟩ ?_
    intro j hI ih
    try dsimp only at hI ih ⊢
    have hj := hI.1
    refine tt_iload_n X rfl dX10_areSame_12 ?_
    refine tt_aload_n X rfl dX10_areSame_13 ?_
    refine tt_geti X fX10_101 (k_60 _ _) (by decide) (Or.inl rfl) dX10_areSame_14 ?_
    try simp (disch := decide) only [ot_rd, ot_rs, ot_rf, ot_ucd, ot_ucs]
    refine tt_icmp_ge X 65 (by first | omega | (simp (disch := decide) only [ot_rd, ot_rs, ot_rf, ot_ucd, ot_ucs]; omega)) dX10_areSame_17 (by decide) (fun b17 => ?_) (fun b17 => ?_)
    · refine tt_iinc X dX10_areSame_65 rfl (by decide) ?_
      refine tt_goto X 2 dX10_areSame_68 (by decide) ?_
      refine tt_loc [(0, _), (1, _), (2, _)] ⟨rfl, rfl, rfl, trivial⟩ ?_
      refine ihi (i + 1) ⟨by omega, fun a b a1 a2 b1 b2 => ?_⟩ (by omega)
      rcases (show a < i ∨ a = i by omega) with w | w
      · exact hIi.2 a b a1 w b1 b2
      · rw [w]; exact hI.2 b b1 (by omega)
    · have hi2 : 0 ≤ (i + t) % (μ 60 2) ∧ (i + t) % (μ 60 2) < μ 60 2 := ⟨Int.emod_nonneg _ (by omega), Int.emod_lt_of_pos _ (by omega)⟩
      have hj2 : 0 ≤ (j + t) % (μ 60 2) ∧ (j + t) % (μ 60 2) < μ 60 2 := ⟨Int.emod_nonneg _ (by omega), Int.emod_lt_of_pos _ (by omega)⟩
      have hA := (hE i (by omega) (by omega)).1
      have hB := (hE _ hi2.1 hi2.2).1
      have hone : ((if eP k s0 (μ 60 2) (μ 60 2) i j then 1 else 0 : Int) = (if eP k s0 (μ 60 2) (μ 60 2) ((i + t) % (μ 60 2)) ((j + t) % (μ 60 2)) then 1 else 0)) ↔ eP k s0 (μ 60 2) (μ 60 2) i j = eP k s0 (μ 60 2) (μ 60 2) ((i + t) % (μ 60 2)) ((j + t) % (μ 60 2)) := ite_inj
      refine tt_aload_n X rfl dX10_areSame_20 ?_
      refine tt_getr X fX10_92 (k_60 _ _) (by decide) ⟨nofun, nofun⟩ rfl dX10_areSame_21 ?_
      refine tt_iload_n X rfl dX10_areSame_24 ?_
      refine tt_iaload X (k_86 _ _) (by first | omega | (simp (disch := decide) only [ot_rd, ot_rs, ot_rf, ot_ucd, ot_ucs]; omega)) dX10_areSame_25 ?_
      try simp (disch := decide) only [ot_rd, ot_rs, ot_rf, ot_ucd, ot_ucs]
      refine tt_iload_n X rfl dX10_areSame_26 ?_
      refine tt_ishr X dX10_areSame_27 ?_
      refine tt_iconst X dX10_areSame_28 ?_
      refine tt_iand X dX10_areSame_29 ?_
      refine tt_top (bt_test (by omega) (by omega)) ?_
      rw [gE_bt hE (by omega) (by omega)]
      refine tt_aload_n X rfl dX10_areSame_30 ?_
      refine tt_getr X fX10_92 (k_60 _ _) (by decide) ⟨nofun, nofun⟩ rfl dX10_areSame_31 ?_
      refine tt_iload_n X rfl dX10_areSame_34 ?_
      refine tt_iload_n X rfl dX10_areSame_35 ?_
      refine tt_iadd X dX10_areSame_36 ?_
      refine tt_aload_n X rfl dX10_areSame_37 ?_
      refine tt_geti X fX10_101 (k_60 _ _) (by decide) (Or.inl rfl) dX10_areSame_38 ?_
      try simp (disch := decide) only [ot_rd, ot_rs, ot_rf, ot_ucd, ot_ucs]
      refine tt_irem X (by omega) dX10_areSame_41 ?_
      refine tt_top (bo_rem (by omega) (by omega)) ?_
      refine tt_iaload X (k_86 _ _) (by first | omega | (simp (disch := decide) only [ot_rd, ot_rs, ot_rf, ot_ucd, ot_ucs]; omega)) dX10_areSame_42 ?_
      try simp (disch := decide) only [ot_rd, ot_rs, ot_rf, ot_ucd, ot_ucs]
      refine tt_iload_n X rfl dX10_areSame_43 ?_
      refine tt_iload_n X rfl dX10_areSame_44 ?_
      refine tt_iadd X dX10_areSame_45 ?_
      refine tt_aload_n X rfl dX10_areSame_46 ?_
      refine tt_geti X fX10_101 (k_60 _ _) (by decide) (Or.inl rfl) dX10_areSame_47 ?_
      try simp (disch := decide) only [ot_rd, ot_rs, ot_rf, ot_ucd, ot_ucs]
      refine tt_irem X (by omega) dX10_areSame_50 ?_
      refine tt_top (bo_rem (by omega) (by omega)) ?_
      refine tt_ishr X dX10_areSame_51 ?_
      refine tt_iconst X dX10_areSame_52 ?_
      refine tt_iand X dX10_areSame_53 ?_
      refine tt_top (bt_test (by omega) (by omega)) ?_
      rw [gE_bt hE hi2 hj2]
      refine tt_icmp_eq X 59 (by split <;> split <;> omega) dX10_areSame_54 (by decide) (fun b54 => ?_) (fun b54 => ?_)
      · refine tt_iinc X dX10_areSame_59 rfl (by decide) ?_
        refine tt_goto X 12 dX10_areSame_62 (by decide) ?_
        refine tt_loc [(0, _), (1, _), (2, _), (3, _)] ⟨rfl, rfl, rfl, rfl, trivial⟩ ?_
        refine ih (j + 1) ⟨by omega, fun b b1 b2 => ?_⟩ (by omega)
        rcases (show b < j ∨ b = j by omega) with w | w
        · exact hI.2 b b1 w
        · rw [w]; exact hone.mp b54
      · refine tt_iconst X dX10_areSame_57 ?_
        refine tt_zret X ⟨hr.1, hr.2.1⟩ (by omega) (by decide) (by decide) dX10_areSame_58 ?_
        refine ⟨rfl, rfl, by omega, fun w => by omega, fun _ h => b54 (hone.mpr (h i j (by omega) (by omega) (by omega) (by omega)))⟩
set_option maxRecDepth 100000 in
set_option maxHeartbeats 1000000 in
theorem q_rule (l : Launch) (g : ot_G) (ln : Nat) (ext : ot_L) (μ : ot_M) (h0 : μ 60 0 = 0) (k s0 w : Int) (hk : -2147483648 ≤ k ∧ k ≤ 2147483647) (hs0 : -2147483648 ≤ s0 ∧ s0 ≤ 2147483647) (hw : -2147483648 ≤ w ∧ w ≤ 2147483647)(hN : 0 ≤ μ 60 2 ∧ μ 60 2 ≤ 24) : ot_C l g yX10_rule cX10_rule 6 (some .int) 2 0 0 [.inr 60, .inl k, .inl s0, .inl w] (LL ln ext) μ (ot_pi (fun r L2 μ2 => L2 = LL ln ext ∧ (∃ F, μ2 = ot_uc μ 86 F) ∧ (((0 < μ 60 2 ∧ 0 ≤ k ∧ k ≤ 99 ∧ 0 ≤ s0 ∧ s0 ≤ 99) ∧ w = 0 ∧ r = pairS (fun a b => if eP k s0 (μ 60 2) (μ 60 2) a b then 1 else 0) (μ 60 2).toNat) ∨ ((0 < μ 60 2 ∧ 0 ≤ k ∧ k ≤ 99 ∧ 0 ≤ s0 ∧ s0 ≤ 99) ∧ w = 1 ∧ lstT k s0 (μ 60 2) r) ∨ (¬ ((0 < μ 60 2 ∧ 0 ≤ k ∧ k ≤ 99 ∧ 0 ≤ s0 ∧ s0 ≤ 99) ∧ 0 ≤ w ∧ w ≤ 1) ∧ r = -1)))) := by
  refine ot_enter (by decide) (Nat.le_of_ble_eq_true rfl) ?_
  intro p e s m args below meth c X hr
  refine tt_aload_n X rfl dX10_rule_0 ?_
  refine tt_iconst X dX10_rule_1 ?_
  refine tt_puti X fX10_98 kc_10 (k_60 _ _) (by decide) (fun q hq => by cases hq; rfl) rfl dX10_rule_2 ?_
  refine tt_mem (ot_nop h0) ?_
  refine tt_aload_n X rfl dX10_rule_5 ?_
  refine tt_iload_n X rfl dX10_rule_6 ?_
  refine tt_iload_n X rfl dX10_rule_7 ?_
  refine tt_vi X rfl mX10_314 (q_isRule l g ln ext _ _ _ (by first | omega | (simp (disch := decide) only [ot_rd, ot_rs, ot_rf, ot_ucd, ot_ucs]; omega)) (by first | omega | (simp (disch := decide) only [ot_rd, ot_rs, ot_rf, ot_ucd, ot_ucs]; omega)) (by first | omega | (simp (disch := decide) only [ot_rd, ot_rs, ot_rf, ot_ucd, ot_ucs]; omega))) (k_60 _ _) ⟨_, rfl, rfl⟩ rfl rfl (Nat.le_of_ble_eq_true rfl) (by decide) (by decide) (by decide) dX10_rule_8 (fun z8 L8 μ8 hp => ?_)
  obtain ⟨rfl, e8, hz8⟩ := hp
  replace e8 := e8.symm
  subst e8
  try simp (disch := decide) only [ot_rd, ot_rs, ot_rf, ot_ucd, ot_ucs] at hz8
  refine tt_if_eq X 24 (by first | omega | (simp (disch := decide) only [ot_rd, ot_rs, ot_rf, ot_ucd, ot_ucs]; omega)) dX10_rule_11 (by decide) (fun b11 => ?_) (fun b11 => ?_)
  · refine tt_iconst X dX10_rule_24 ?_
    refine tt_iret X ⟨hr.1, hr.2.1⟩ (by decide) (by decide) dX10_rule_25 ?_
    exact ⟨rfl, ⟨μ 86, ot_uc_self.symm⟩, Or.inr (Or.inr ⟨by omega, rfl⟩)⟩
  · refine tt_aload_n X rfl dX10_rule_14 ?_
    refine tt_iload_n X rfl dX10_rule_15 ?_
    refine tt_iconst X dX10_rule_16 ?_
    refine tt_iconst X dX10_rule_17 ?_
    refine tt_vi X rfl mX10_104 (q_isIn l g ln ext _ _ _ _ (by first | omega | (simp (disch := decide) only [ot_rd, ot_rs, ot_rf, ot_ucd, ot_ucs]; omega)) (by first | omega | (simp (disch := decide) only [ot_rd, ot_rs, ot_rf, ot_ucd, ot_ucs]; omega)) (by first | omega | (simp (disch := decide) only [ot_rd, ot_rs, ot_rf, ot_ucd, ot_ucs]; omega))) (k_60 _ _) ⟨_, rfl, rfl⟩ rfl rfl (Nat.le_of_ble_eq_true rfl) (by decide) (by decide) (by decide) dX10_rule_18 (fun z18 L18 μ18 hp => ?_)
    obtain ⟨rfl, e18, hz18⟩ := hp
    replace e18 := e18.symm
    subst e18
    try simp (disch := decide) only [ot_rd, ot_rs, ot_rf, ot_ucd, ot_ucs] at hz18
    refine tt_if_ne X 26 (by first | omega | (simp (disch := decide) only [ot_rd, ot_rs, ot_rf, ot_ucd, ot_ucs]; omega)) dX10_rule_21 (by decide) (fun b21 => ?_) (fun b21 => ?_)
    · refine tt_aload_n X rfl dX10_rule_26 ?_
      refine tt_iload_n X rfl dX10_rule_27 ?_
      refine tt_iload_n X rfl dX10_rule_28 ?_
      refine tt_vv X rfl mX10_317 (q_findsRule l g ln ext _ _ _ (by omega) (by omega) (by omega)) (k_60 _ _) ⟨_, rfl, rfl⟩ rfl rfl (Nat.le_of_ble_eq_true rfl) (by decide) (by decide) (by decide) dX10_rule_29 (fun L29 μ29 hp => ?_)
      obtain ⟨rfl, F, hE, rfl⟩ := hp
      refine tt_iload_n X rfl dX10_rule_32 ?_
      refine tt_if_ne X 78 (by first | omega | (simp (disch := decide) only [ot_rd, ot_rs, ot_rf, ot_ucd, ot_ucs]; omega)) dX10_rule_33 (by decide) (fun b33 => ?_) (fun b33 => ?_)
      · refine tt_iconst X dX10_rule_78 ?_
        refine tt_istore X dX10_rule_79 (by decide) ?_
        refine tt_loc [(0, _), (4, _)] ⟨rfl, rfl, trivial⟩ ?_
        refine tt_loop (α := Int) (fun t => (μ 60 2 - t).toNat) (fun t => (1 ≤ t ∧ t ≤ μ 60 2) ∧ ∀ u, 1 ≤ u → u < t → ¬ sameT k s0 (μ 60 2) u) (fun t => ot_uc μ 86 F) (fun t => [(0, .inr 60), (4, .inl t)]) 1 ⟨by omega, fun u u1 u2 => by omega⟩ ?_
        intro t hI ih
        try dsimp only at hI ih ⊢
        have ht := hI.1
        refine tt_aload_n X rfl dX10_rule_81 ?_
        refine tt_iload X rfl dX10_rule_82 ?_
        refine tt_vi X rfl mX10_320 (q_areSame l g ln ext _ k s0 _ (by simp (disch := decide) only [ot_ucd, ot_ucs, ot_rd, ot_rs, ot_rf]; omega) (by simp (disch := decide) only [ot_ucd, ot_ucs, ot_rd, ot_rs, ot_rf]; omega) (by simp (disch := decide) only [ot_ucd, ot_ucs, ot_rd, ot_rs, ot_rf]; exact hE)) (k_60 _ _) ⟨_, rfl, rfl⟩ rfl rfl (Nat.le_of_ble_eq_true rfl) (by decide) (by decide) (by decide) dX10_rule_84 (fun z84 L84 μ84 hp => ?_)
        obtain ⟨rfl, e84, hz84, hz84a, hz84b⟩ := hp
        replace e84 := e84.symm
        subst e84
        simp (disch := decide) only [ot_ucd, ot_ucs, ot_rd, ot_rs, ot_rf] at hz84a hz84b
        refine tt_if_ne X 99 (by first | omega | (simp (disch := decide) only [ot_rd, ot_rs, ot_rf, ot_ucd, ot_ucs]; omega)) dX10_rule_87 (by decide) (fun b87 => ?_) (fun b87 => ?_)
        · refine tt_iload X rfl dX10_rule_99 ?_
          refine tt_iret X ⟨hr.1, hr.2.1⟩ (by decide) (by decide) dX10_rule_101 ?_
          exact ⟨rfl, ⟨F, rfl⟩, Or.inr (Or.inl ⟨by omega, by omega, hI.1, hz84a (by omega), hI.2⟩)⟩
        · refine tt_iload X rfl dX10_rule_90 ?_
          refine tt_iconst X dX10_rule_92 ?_
          refine tt_iadd X dX10_rule_93 ?_
          refine tt_istore X dX10_rule_94 (by decide) ?_
          refine tt_goto X 81 dX10_rule_96 (by decide) ?_
          refine tt_loc [(0, _), (4, _)] ⟨rfl, rfl, trivial⟩ ?_
          have hns := hz84b (by omega)
          have hlt : t ≠ μ 60 2 := fun w => hns (by rw [w]; exact sameT_all)
          refine ih (t + 1) ⟨by omega, fun u u1 u2 => ?_⟩ (by omega)
          rcases (show u < t ∨ u = t by omega) with w | w
          · exact hI.2 u u1 w
          · rw [w]; exact hns
      · refine tt_iconst X dX10_rule_36 ?_
        refine tt_istore X dX10_rule_37 (by decide) ?_
        refine tt_iconst X dX10_rule_39 ?_
        refine tt_istore X dX10_rule_40 (by decide) ?_
        refine tt_loc [(0, _), (4, _), (5, _)] ⟨rfl, rfl, rfl, trivial⟩ ?_
        refine tt_loop (α := Int × Int) (fun ((i, y)) => (μ 60 2 - i).toNat) (fun ((i, y)) => (0 ≤ i ∧ i ≤ μ 60 2) ∧ y = sumN (fun a => sumN (fun b => if eP k s0 (μ 60 2) (μ 60 2) a b then 1 else 0) (μ 60 2).toNat) i.toNat) (fun ((i, y)) => ot_uc μ 86 F) (fun ((i, y)) => [(0, .inr 60), (4, .inl y), (5, .inl i)]) (0, 0) ⟨by show 0 ≤ (0 : Int) ∧ (0 : Int) ≤ μ 60 2; omega, rfl⟩ ?_
        intro a hI ih
        obtain ⟨i, y⟩ := a
        try dsimp only at hI ih ⊢
        replace hI : (0 ≤ i ∧ i ≤ μ 60 2) ∧ y = sumN (fun a => sumN (fun b => if eP k s0 (μ 60 2) (μ 60 2) a b then 1 else 0) (μ 60 2).toNat) i.toNat := hI
        have hi := hI.1
        refine tt_iload X rfl dX10_rule_42 ?_
        refine tt_aload_n X rfl dX10_rule_44 ?_
        refine tt_geti X fX10_101 (k_60 _ _) (by decide) (Or.inl rfl) dX10_rule_45 ?_
        try simp (disch := decide) only [ot_rd, ot_rs, ot_rf, ot_ucd, ot_ucs]
        refine tt_icmp_ge X 73 (by first | omega | (simp (disch := decide) only [ot_rd, ot_rs, ot_rf, ot_ucd, ot_ucs]; omega)) dX10_rule_48 (by decide) (fun b48 => ?_) (fun b48 => ?_)
        · refine tt_iload X rfl dX10_rule_73 ?_
          refine tt_iconst X dX10_rule_75 ?_
          refine tt_idiv X (by omega) dX10_rule_76 ?_
          refine tt_iret X ⟨hr.1, hr.2.1⟩ (by decide) (by decide) dX10_rule_77 ?_
          refine ⟨rfl, ⟨F, rfl⟩, Or.inl ⟨by omega, by omega, ?_⟩⟩
          have e := sym_pairs (e := fun a b => eP k s0 (μ 60 2) (μ 60 2) a b) (fun a b => eP_comm _ _ _ _ a b) (fun a => eP_self) (μ 60 2).toNat
          have e2 := hI.2
          rw [show i = μ 60 2 by omega, e] at e2
          have hb := sumN_bound (f := fun a => sumN (fun b => if eP k s0 (μ 60 2) (μ 60 2) a b then 1 else 0) (μ 60 2).toNat) (c := 24) (by omega) (n := (μ 60 2).toNat) (fun a a1 a2 => by
            have := sumN_bound (f := fun b => if eP k s0 (μ 60 2) (μ 60 2) a b then 1 else 0) (c := 1) (by omega) (n := (μ 60 2).toNat) (fun b _ _ => by split <;> omega)
            omega)
          rw [e] at hb
          rw [bo_div (by omega) (by omega)]
          omega
        · have hA := (hE i (by omega) (by omega)).1
          refine tt_iload X rfl dX10_rule_51 ?_
          refine tt_aload_n X rfl dX10_rule_53 ?_
          refine tt_aload_n X rfl dX10_rule_54 ?_
          refine tt_getr X fX10_92 (k_60 _ _) (by decide) ⟨nofun, nofun⟩ rfl dX10_rule_55 ?_
          refine tt_iload X rfl dX10_rule_58 ?_
          refine tt_iaload X (k_86 _ _) (by first | omega | (simp (disch := decide) only [ot_rd, ot_rs, ot_rf, ot_ucd, ot_ucs]; omega)) dX10_rule_60 ?_
          try simp (disch := decide) only [ot_rd, ot_rs, ot_rf, ot_ucd, ot_ucs]
          refine tt_vi X rfl mX10_293 (q_ones l g ln ext _ _ (by omega)) (k_60 _ _) ⟨_, rfl, rfl⟩ rfl rfl (Nat.le_of_ble_eq_true rfl) (by decide) (by decide) (by decide) dX10_rule_61 (fun z61 L61 μ61 hp => ?_)
          obtain ⟨rfl, e61, hz61⟩ := hp
          replace e61 := e61.symm
          subst e61
          have hpe := pop_gE (by omega) hE (a := i) (by omega)
          rw [← hz61] at hpe
          try simp (disch := decide) only [ot_rd, ot_rs, ot_rf, ot_ucd, ot_ucs] at hz61
          refine tt_iadd X dX10_rule_64 ?_
          refine tt_istore X dX10_rule_65 (by decide) ?_
          refine tt_iinc X dX10_rule_67 rfl (by decide) ?_
          refine tt_goto X 42 dX10_rule_70 (by decide) ?_
          refine tt_loc [(0, _), (4, _), (5, _)] ⟨rfl, rfl, rfl, trivial⟩ ?_
          refine ih (i + 1, y + z61) ⟨by show 0 ≤ i + 1 ∧ i + 1 ≤ μ 60 2; omega, ?_⟩ (by show (μ 60 2 - (i + 1)).toNat < (μ 60 2 - i).toNat; omega)
          show y + z61 = sumN _ (i + 1).toNat
          rw [sumN_toNat _ hI.1.1, ← hI.2, hpe]
    · refine tt_iconst X dX10_rule_24 ?_
      refine tt_iret X ⟨hr.1, hr.2.1⟩ (by decide) (by decide) dX10_rule_25 ?_
      exact ⟨rfl, ⟨μ 86, ot_uc_self.symm⟩, Or.inr (Or.inr ⟨by omega, rfl⟩)⟩

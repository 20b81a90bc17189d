set_option maxRecDepth 100000 in
set_option maxHeartbeats 4000000 in
theorem q_want (l : Launch) (g : ot_G) (ln : Nat) (ext : ot_L) (μ : ot_M) (h0 : μ 60 0 = 0) (p0 x y v : Int) (hp0 : -2147483648 ≤ p0 ∧ p0 ≤ 2147483647) (hx : -2147483648 ≤ x ∧ x ≤ 2147483647) (hy : -2147483648 ≤ y ∧ y ≤ 2147483647) (hv : -2147483648 ≤ v ∧ v ≤ 2147483647)(hS : 2 ≤ μ 60 1 ∧ μ 60 1 ≤ 8)  : ot_C l g yX10_want cX10_want 5 (some .boolean) 1 0 0 [.inr 60, .inl p0, .inl x, .inl y, .inl v] (LL ln ext) μ (ot_pi (fun r L2 μ2 => L2 = LL ln ext ∧ ((((0 ≤ p0 ∧ p0 < 4) ∧ (0 ≤ x ∧ x < μ 60 1 ∧ 0 ≤ y ∧ y < μ 60 1) ∧ 0 ≤ v ∧ v ≤ 999) ∧ r = 1 ∧ μ2 = ot_up μ 66 (64 * p0 + 8 * y + x) v) ∨ (¬ ((0 ≤ p0 ∧ p0 < 4) ∧ (0 ≤ x ∧ x < μ 60 1 ∧ 0 ≤ y ∧ y < μ 60 1) ∧ 0 ≤ v ∧ v ≤ 999) ∧ r = 0 ∧ μ2 = μ)))) := by
  refine ot_enter (by decide) (Nat.le_of_ble_eq_true rfl) ?_
  intro p e s m args below meth c X hr
  refine tt_aload_n X rfl dX10_want_0 ?_
  refine tt_iconst X dX10_want_1 ?_
  refine tt_puti X fX10_98 kc_10 (k_60 _ _) (by decide) (fun q hq => by cases hq; rfl) rfl dX10_want_2 ?_
  refine tt_mem (ot_nop h0) ?_
  refine tt_aload_n X rfl dX10_want_5 ?_
  refine tt_iload_n X rfl dX10_want_6 ?_
  refine tt_vi X rfl mX10_117 (q_isPicture l g ln ext _ _ (by first | omega | (simp (disch := decide) only [ot_rd, ot_rs, ot_rf, ot_ucd, ot_ucs]; omega))) (k_60 _ _) ⟨_, rfl, rfl⟩ rfl rfl (Nat.le_of_ble_eq_true rfl) (by decide) (by decide) (by decide) dX10_want_7 (fun z7 L7 μ7 hp => ?_)
  obtain ⟨rfl, e7, hz7⟩ := hp
  replace e7 := e7.symm
  subst e7
  try simp (disch := decide) only [ot_rd, ot_rs, ot_rf, ot_ucd, ot_ucs] at hz7
  refine tt_if_eq X 35 (by first | omega | (simp (disch := decide) only [ot_rd, ot_rs, ot_rf, ot_ucd, ot_ucs]; omega)) dX10_want_10 (by decide) (fun b10 => ?_) (fun b10 => ?_)
  · refine tt_iconst X dX10_want_35 ?_
    refine tt_zret X ⟨hr.1, hr.2.1⟩ (by omega) (by decide) (by decide) dX10_want_36 ?_
    first | exact ⟨rfl, Or.inr ⟨by omega, rfl, rfl⟩⟩ | exact ⟨rfl, Or.inl ⟨by omega, rfl, rfl⟩⟩
  · refine tt_aload_n X rfl dX10_want_13 ?_
    refine tt_iload_n X rfl dX10_want_14 ?_
    refine tt_iload_n X rfl dX10_want_15 ?_
    refine tt_vi X rfl mX10_121 (q_isSquare l g ln ext _ _ _ (by first | omega | (simp (disch := decide) only [ot_rd, ot_rs, ot_rf, ot_ucd, ot_ucs]; omega)) (by first | omega | (simp (disch := decide) only [ot_rd, ot_rs, ot_rf, ot_ucd, ot_ucs]; omega)) (by first | omega | (simp (disch := decide) only [ot_rd, ot_rs, ot_rf, ot_ucd, ot_ucs]; omega))) (k_60 _ _) ⟨_, rfl, rfl⟩ rfl rfl (Nat.le_of_ble_eq_true rfl) (by decide) (by decide) (by decide) dX10_want_16 (fun z16 L16 μ16 hp => ?_)
    obtain ⟨rfl, e16, hz16⟩ := hp
    replace e16 := e16.symm
    subst e16
    try simp (disch := decide) only [ot_rd, ot_rs, ot_rf, ot_ucd, ot_ucs] at hz16
    refine tt_if_eq X 35 (by first | omega | (simp (disch := decide) only [ot_rd, ot_rs, ot_rf, ot_ucd, ot_ucs]; omega)) dX10_want_19 (by decide) (fun b19 => ?_) (fun b19 => ?_)
    · refine tt_iconst X dX10_want_35 ?_
      refine tt_zret X ⟨hr.1, hr.2.1⟩ (by omega) (by decide) (by decide) dX10_want_36 ?_
      first | exact ⟨rfl, Or.inr ⟨by omega, rfl, rfl⟩⟩ | exact ⟨rfl, Or.inl ⟨by omega, rfl, rfl⟩⟩
    · refine tt_aload_n X rfl dX10_want_22 ?_
      refine tt_iload X rfl dX10_want_23 ?_
      refine tt_iconst X dX10_want_25 ?_
      refine tt_sipush X (by decide) dX10_want_26 ?_
      refine tt_vi X rfl mX10_104 (q_isIn l g ln ext _ _ _ _ (by first | omega | (simp (disch := decide) only [ot_rd, ot_rs, ot_rf, ot_ucd, ot_ucs]; omega)) (by first | omega | (simp (disch := decide) only [ot_rd, ot_rs, ot_rf, ot_ucd, ot_ucs]; omega)) (by first | omega | (simp (disch := decide) only [ot_rd, ot_rs, ot_rf, ot_ucd, ot_ucs]; omega))) (k_60 _ _) ⟨_, rfl, rfl⟩ rfl rfl (Nat.le_of_ble_eq_true rfl) (by decide) (by decide) (by decide) dX10_want_29 (fun z29 L29 μ29 hp => ?_)
      obtain ⟨rfl, e29, hz29⟩ := hp
      replace e29 := e29.symm
      subst e29
      try simp (disch := decide) only [ot_rd, ot_rs, ot_rf, ot_ucd, ot_ucs] at hz29
      refine tt_if_ne X 37 (by first | omega | (simp (disch := decide) only [ot_rd, ot_rs, ot_rf, ot_ucd, ot_ucs]; omega)) dX10_want_32 (by decide) (fun b32 => ?_) (fun b32 => ?_)
      · refine tt_aload_n X rfl dX10_want_37 ?_
        refine tt_getr X fX10_29 (k_60 _ _) (by decide) ⟨nofun, nofun⟩ rfl dX10_want_38 ?_
        refine tt_bipush X (by decide) dX10_want_41 ?_
        refine tt_iload_n X rfl dX10_want_43 ?_
        refine tt_imul X dX10_want_44 ?_
        refine tt_bipush X (by decide) dX10_want_45 ?_
        refine tt_iload_n X rfl dX10_want_47 ?_
        refine tt_imul X dX10_want_48 ?_
        refine tt_iadd X dX10_want_49 ?_
        refine tt_iload_n X rfl dX10_want_50 ?_
        refine tt_iadd X dX10_want_51 ?_
        refine tt_iload X rfl dX10_want_52 ?_
        refine tt_iastore X (k_66 _ _) (by first | omega | (simp (disch := decide) only [ot_rd, ot_rs, ot_rf, ot_ucd, ot_ucs]; omega)) dX10_want_54 ?_
        refine tt_iconst X dX10_want_55 ?_
        refine tt_zret X ⟨hr.1, hr.2.1⟩ (by omega) (by decide) (by decide) dX10_want_56 ?_
        first | exact ⟨rfl, Or.inr ⟨by omega, rfl, rfl⟩⟩ | exact ⟨rfl, Or.inl ⟨by omega, rfl, rfl⟩⟩
      · refine tt_iconst X dX10_want_35 ?_
        refine tt_zret X ⟨hr.1, hr.2.1⟩ (by omega) (by decide) (by decide) dX10_want_36 ?_
        first | exact ⟨rfl, Or.inr ⟨by omega, rfl, rfl⟩⟩ | exact ⟨rfl, Or.inl ⟨by omega, rfl, rfl⟩⟩
set_option maxRecDepth 100000 in
set_option maxHeartbeats 4000000 in
theorem q_weight (l : Launch) (g : ot_G) (ln : Nat) (ext : ot_L) (μ : ot_M) (h0 : μ 60 0 = 0) (x y v : Int) (hx : -2147483648 ≤ x ∧ x ≤ 2147483647) (hy : -2147483648 ≤ y ∧ y ≤ 2147483647) (hv : -2147483648 ≤ v ∧ v ≤ 2147483647)(hS : 2 ≤ μ 60 1 ∧ μ 60 1 ≤ 8)  : ot_C l g yX10_weight cX10_weight 4 (some .boolean) 1 0 0 [.inr 60, .inl x, .inl y, .inl v] (LL ln ext) μ (ot_pi (fun r L2 μ2 => L2 = LL ln ext ∧ ((((0 ≤ x ∧ x < μ 60 1 ∧ 0 ≤ y ∧ y < μ 60 1) ∧ 0 ≤ v ∧ v ≤ 9) ∧ r = 1 ∧ μ2 = ot_up μ 67 (8 * y + x) (v - 1)) ∨ (¬ ((0 ≤ x ∧ x < μ 60 1 ∧ 0 ≤ y ∧ y < μ 60 1) ∧ 0 ≤ v ∧ v ≤ 9) ∧ r = 0 ∧ μ2 = μ)))) := by
  refine ot_enter (by decide) (Nat.le_of_ble_eq_true rfl) ?_
  intro p e s m args below meth c X hr
  refine tt_aload_n X rfl dX10_weight_0 ?_
  refine tt_iconst X dX10_weight_1 ?_
  refine tt_puti X fX10_98 kc_10 (k_60 _ _) (by decide) (fun q hq => by cases hq; rfl) rfl dX10_weight_2 ?_
  refine tt_mem (ot_nop h0) ?_
  refine tt_aload_n X rfl dX10_weight_5 ?_
  refine tt_iload_n X rfl dX10_weight_6 ?_
  refine tt_iload_n X rfl dX10_weight_7 ?_
  refine tt_vi X rfl mX10_121 (q_isSquare l g ln ext _ _ _ (by first | omega | (simp (disch := decide) only [ot_rd, ot_rs, ot_rf, ot_ucd, ot_ucs]; omega)) (by first | omega | (simp (disch := decide) only [ot_rd, ot_rs, ot_rf, ot_ucd, ot_ucs]; omega)) (by first | omega | (simp (disch := decide) only [ot_rd, ot_rs, ot_rf, ot_ucd, ot_ucs]; omega))) (k_60 _ _) ⟨_, rfl, rfl⟩ rfl rfl (Nat.le_of_ble_eq_true rfl) (by decide) (by decide) (by decide) dX10_weight_8 (fun z8 L8 μ8 hp => ?_)
  obtain ⟨rfl, e8, hz8⟩ := hp
  replace e8 := e8.symm
  subst e8
  try simp (disch := decide) only [ot_rd, ot_rs, ot_rf, ot_ucd, ot_ucs] at hz8
  refine tt_if_eq X 25 (by first | omega | (simp (disch := decide) only [ot_rd, ot_rs, ot_rf, ot_ucd, ot_ucs]; omega)) dX10_weight_11 (by decide) (fun b11 => ?_) (fun b11 => ?_)
  · refine tt_iconst X dX10_weight_25 ?_
    refine tt_zret X ⟨hr.1, hr.2.1⟩ (by omega) (by decide) (by decide) dX10_weight_26 ?_
    first | exact ⟨rfl, Or.inr ⟨by omega, rfl, rfl⟩⟩ | exact ⟨rfl, Or.inl ⟨by omega, rfl, rfl⟩⟩
  · refine tt_aload_n X rfl dX10_weight_14 ?_
    refine tt_iload_n X rfl dX10_weight_15 ?_
    refine tt_iconst X dX10_weight_16 ?_
    refine tt_bipush X (by decide) dX10_weight_17 ?_
    refine tt_vi X rfl mX10_104 (q_isIn l g ln ext _ _ _ _ (by first | omega | (simp (disch := decide) only [ot_rd, ot_rs, ot_rf, ot_ucd, ot_ucs]; omega)) (by first | omega | (simp (disch := decide) only [ot_rd, ot_rs, ot_rf, ot_ucd, ot_ucs]; omega)) (by first | omega | (simp (disch := decide) only [ot_rd, ot_rs, ot_rf, ot_ucd, ot_ucs]; omega))) (k_60 _ _) ⟨_, rfl, rfl⟩ rfl rfl (Nat.le_of_ble_eq_true rfl) (by decide) (by decide) (by decide) dX10_weight_19 (fun z19 L19 μ19 hp => ?_)
    obtain ⟨rfl, e19, hz19⟩ := hp
    replace e19 := e19.symm
    subst e19
    try simp (disch := decide) only [ot_rd, ot_rs, ot_rf, ot_ucd, ot_ucs] at hz19
    refine tt_if_ne X 27 (by first | omega | (simp (disch := decide) only [ot_rd, ot_rs, ot_rf, ot_ucd, ot_ucs]; omega)) dX10_weight_22 (by decide) (fun b22 => ?_) (fun b22 => ?_)
    · refine tt_aload_n X rfl dX10_weight_27 ?_
      refine tt_getr X fX10_32 (k_60 _ _) (by decide) ⟨nofun, nofun⟩ rfl dX10_weight_28 ?_
      refine tt_bipush X (by decide) dX10_weight_31 ?_
      refine tt_iload_n X rfl dX10_weight_33 ?_
      refine tt_imul X dX10_weight_34 ?_
      refine tt_iload_n X rfl dX10_weight_35 ?_
      refine tt_iadd X dX10_weight_36 ?_
      refine tt_iload_n X rfl dX10_weight_37 ?_
      refine tt_iconst X dX10_weight_38 ?_
      refine tt_isub X dX10_weight_39 ?_
      refine tt_iastore X (k_67 _ _) (by first | omega | (simp (disch := decide) only [ot_rd, ot_rs, ot_rf, ot_ucd, ot_ucs]; omega)) dX10_weight_40 ?_
      refine tt_iconst X dX10_weight_41 ?_
      refine tt_zret X ⟨hr.1, hr.2.1⟩ (by omega) (by decide) (by decide) dX10_weight_42 ?_
      first | exact ⟨rfl, Or.inr ⟨by omega, rfl, rfl⟩⟩ | exact ⟨rfl, Or.inl ⟨by omega, rfl, rfl⟩⟩
    · refine tt_iconst X dX10_weight_25 ?_
      refine tt_zret X ⟨hr.1, hr.2.1⟩ (by omega) (by decide) (by decide) dX10_weight_26 ?_
      first | exact ⟨rfl, Or.inr ⟨by omega, rfl, rfl⟩⟩ | exact ⟨rfl, Or.inl ⟨by omega, rfl, rfl⟩⟩
set_option maxRecDepth 100000 in
set_option maxHeartbeats 4000000 in
theorem q_tell (l : Launch) (g : ot_G) (ln : Nat) (ext : ot_L) (μ : ot_M) (h0 : μ 60 0 = 0) (x y v : Int) (hx : -2147483648 ≤ x ∧ x ≤ 2147483647) (hy : -2147483648 ≤ y ∧ y ≤ 2147483647) (hv : -2147483648 ≤ v ∧ v ≤ 2147483647)(hS : 2 ≤ μ 60 1 ∧ μ 60 1 ≤ 8)  : ot_C l g yX10_tell cX10_tell 4 (some .boolean) 1 0 0 [.inr 60, .inl x, .inl y, .inl v] (LL ln ext) μ (ot_pi (fun r L2 μ2 => L2 = LL ln ext ∧ ((((0 ≤ x ∧ x < μ 60 1 ∧ 0 ≤ y ∧ y < μ 60 1) ∧ -1 ≤ v ∧ v ≤ 9999) ∧ r = 1 ∧ μ2 = ot_up μ 68 (8 * y + x) (v + 1)) ∨ (¬ ((0 ≤ x ∧ x < μ 60 1 ∧ 0 ≤ y ∧ y < μ 60 1) ∧ -1 ≤ v ∧ v ≤ 9999) ∧ r = 0 ∧ μ2 = μ)))) := by
  refine ot_enter (by decide) (Nat.le_of_ble_eq_true rfl) ?_
  intro p e s m args below meth c X hr
  refine tt_aload_n X rfl dX10_tell_0 ?_
  refine tt_iconst X dX10_tell_1 ?_
  refine tt_puti X fX10_98 kc_10 (k_60 _ _) (by decide) (fun q hq => by cases hq; rfl) rfl dX10_tell_2 ?_
  refine tt_mem (ot_nop h0) ?_
  refine tt_aload_n X rfl dX10_tell_5 ?_
  refine tt_iload_n X rfl dX10_tell_6 ?_
  refine tt_iload_n X rfl dX10_tell_7 ?_
  refine tt_vi X rfl mX10_121 (q_isSquare l g ln ext _ _ _ (by first | omega | (simp (disch := decide) only [ot_rd, ot_rs, ot_rf, ot_ucd, ot_ucs]; omega)) (by first | omega | (simp (disch := decide) only [ot_rd, ot_rs, ot_rf, ot_ucd, ot_ucs]; omega)) (by first | omega | (simp (disch := decide) only [ot_rd, ot_rs, ot_rf, ot_ucd, ot_ucs]; omega))) (k_60 _ _) ⟨_, rfl, rfl⟩ rfl rfl (Nat.le_of_ble_eq_true rfl) (by decide) (by decide) (by decide) dX10_tell_8 (fun z8 L8 μ8 hp => ?_)
  obtain ⟨rfl, e8, hz8⟩ := hp
  replace e8 := e8.symm
  subst e8
  try simp (disch := decide) only [ot_rd, ot_rs, ot_rf, ot_ucd, ot_ucs] at hz8
  refine tt_if_eq X 26 (by first | omega | (simp (disch := decide) only [ot_rd, ot_rs, ot_rf, ot_ucd, ot_ucs]; omega)) dX10_tell_11 (by decide) (fun b11 => ?_) (fun b11 => ?_)
  · refine tt_iconst X dX10_tell_26 ?_
    refine tt_zret X ⟨hr.1, hr.2.1⟩ (by omega) (by decide) (by decide) dX10_tell_27 ?_
    first | exact ⟨rfl, Or.inr ⟨by omega, rfl, rfl⟩⟩ | exact ⟨rfl, Or.inl ⟨by omega, rfl, rfl⟩⟩
  · refine tt_aload_n X rfl dX10_tell_14 ?_
    refine tt_iload_n X rfl dX10_tell_15 ?_
    refine tt_iconst X dX10_tell_16 ?_
    refine tt_sipush X (by decide) dX10_tell_17 ?_
    refine tt_vi X rfl mX10_104 (q_isIn l g ln ext _ _ _ _ (by first | omega | (simp (disch := decide) only [ot_rd, ot_rs, ot_rf, ot_ucd, ot_ucs]; omega)) (by first | omega | (simp (disch := decide) only [ot_rd, ot_rs, ot_rf, ot_ucd, ot_ucs]; omega)) (by first | omega | (simp (disch := decide) only [ot_rd, ot_rs, ot_rf, ot_ucd, ot_ucs]; omega))) (k_60 _ _) ⟨_, rfl, rfl⟩ rfl rfl (Nat.le_of_ble_eq_true rfl) (by decide) (by decide) (by decide) dX10_tell_20 (fun z20 L20 μ20 hp => ?_)
    obtain ⟨rfl, e20, hz20⟩ := hp
    replace e20 := e20.symm
    subst e20
    try simp (disch := decide) only [ot_rd, ot_rs, ot_rf, ot_ucd, ot_ucs] at hz20
    refine tt_if_ne X 28 (by first | omega | (simp (disch := decide) only [ot_rd, ot_rs, ot_rf, ot_ucd, ot_ucs]; omega)) dX10_tell_23 (by decide) (fun b23 => ?_) (fun b23 => ?_)
    · refine tt_aload_n X rfl dX10_tell_28 ?_
      refine tt_getr X fX10_35 (k_60 _ _) (by decide) ⟨nofun, nofun⟩ rfl dX10_tell_29 ?_
      refine tt_bipush X (by decide) dX10_tell_32 ?_
      refine tt_iload_n X rfl dX10_tell_34 ?_
      refine tt_imul X dX10_tell_35 ?_
      refine tt_iload_n X rfl dX10_tell_36 ?_
      refine tt_iadd X dX10_tell_37 ?_
      refine tt_iload_n X rfl dX10_tell_38 ?_
      refine tt_iconst X dX10_tell_39 ?_
      refine tt_iadd X dX10_tell_40 ?_
      refine tt_iastore X (k_68 _ _) (by first | omega | (simp (disch := decide) only [ot_rd, ot_rs, ot_rf, ot_ucd, ot_ucs]; omega)) dX10_tell_41 ?_
      refine tt_iconst X dX10_tell_42 ?_
      refine tt_zret X ⟨hr.1, hr.2.1⟩ (by omega) (by decide) (by decide) dX10_tell_43 ?_
      first | exact ⟨rfl, Or.inr ⟨by omega, rfl, rfl⟩⟩ | exact ⟨rfl, Or.inl ⟨by omega, rfl, rfl⟩⟩
    · refine tt_iconst X dX10_tell_26 ?_
      refine tt_zret X ⟨hr.1, hr.2.1⟩ (by omega) (by decide) (by decide) dX10_tell_27 ?_
      first | exact ⟨rfl, Or.inr ⟨by omega, rfl, rfl⟩⟩ | exact ⟨rfl, Or.inl ⟨by omega, rfl, rfl⟩⟩
set_option maxRecDepth 100000 in
set_option maxHeartbeats 4000000 in
theorem q_shade (l : Launch) (g : ot_G) (ln : Nat) (ext : ot_L) (μ : ot_M) (h0 : μ 60 0 = 0) (t v : Int) (ht : -2147483648 ≤ t ∧ t ≤ 2147483647) (hv : -2147483648 ≤ v ∧ v ≤ 2147483647) : ot_C l g yX10_shade cX10_shade 3 (some .boolean) 1 0 0 [.inr 60, .inl t, .inl v] (LL ln ext) μ (ot_pi (fun r L2 μ2 => L2 = LL ln ext ∧ ((((0 ≤ t ∧ t < 3) ∧ 0 ≤ v ∧ v ≤ 9) ∧ r = 1 ∧ μ2 = ot_up (ot_up μ 63 t v) 60 14 0) ∨ (¬ ((0 ≤ t ∧ t < 3) ∧ 0 ≤ v ∧ v ≤ 9) ∧ r = 0 ∧ μ2 = μ)))) := by
  refine ot_enter (by decide) (Nat.le_of_ble_eq_true rfl) ?_
  intro p e s m args below meth c X hr
  refine tt_aload_n X rfl dX10_shade_0 ?_
  refine tt_iconst X dX10_shade_1 ?_
  refine tt_puti X fX10_98 kc_10 (k_60 _ _) (by decide) (fun q hq => by cases hq; rfl) rfl dX10_shade_2 ?_
  refine tt_mem (ot_nop h0) ?_
  refine tt_aload_n X rfl dX10_shade_5 ?_
  refine tt_iload_n X rfl dX10_shade_6 ?_
  refine tt_vi X rfl mX10_125 (q_isThread l g ln ext _ _ (by first | omega | (simp (disch := decide) only [ot_rd, ot_rs, ot_rf, ot_ucd, ot_ucs]; omega))) (k_60 _ _) ⟨_, rfl, rfl⟩ rfl rfl (Nat.le_of_ble_eq_true rfl) (by decide) (by decide) (by decide) dX10_shade_7 (fun z7 L7 μ7 hp => ?_)
  obtain ⟨rfl, e7, hz7⟩ := hp
  replace e7 := e7.symm
  subst e7
  try simp (disch := decide) only [ot_rd, ot_rs, ot_rf, ot_ucd, ot_ucs] at hz7
  refine tt_if_eq X 24 (by first | omega | (simp (disch := decide) only [ot_rd, ot_rs, ot_rf, ot_ucd, ot_ucs]; omega)) dX10_shade_10 (by decide) (fun b10 => ?_) (fun b10 => ?_)
  · refine tt_iconst X dX10_shade_24 ?_
    refine tt_zret X ⟨hr.1, hr.2.1⟩ (by omega) (by decide) (by decide) dX10_shade_25 ?_
    first | exact ⟨rfl, Or.inr ⟨by omega, rfl, rfl⟩⟩ | exact ⟨rfl, Or.inl ⟨by omega, rfl, rfl⟩⟩
  · refine tt_aload_n X rfl dX10_shade_13 ?_
    refine tt_iload_n X rfl dX10_shade_14 ?_
    refine tt_iconst X dX10_shade_15 ?_
    refine tt_bipush X (by decide) dX10_shade_16 ?_
    refine tt_vi X rfl mX10_104 (q_isIn l g ln ext _ _ _ _ (by first | omega | (simp (disch := decide) only [ot_rd, ot_rs, ot_rf, ot_ucd, ot_ucs]; omega)) (by first | omega | (simp (disch := decide) only [ot_rd, ot_rs, ot_rf, ot_ucd, ot_ucs]; omega)) (by first | omega | (simp (disch := decide) only [ot_rd, ot_rs, ot_rf, ot_ucd, ot_ucs]; omega))) (k_60 _ _) ⟨_, rfl, rfl⟩ rfl rfl (Nat.le_of_ble_eq_true rfl) (by decide) (by decide) (by decide) dX10_shade_18 (fun z18 L18 μ18 hp => ?_)
    obtain ⟨rfl, e18, hz18⟩ := hp
    replace e18 := e18.symm
    subst e18
    try simp (disch := decide) only [ot_rd, ot_rs, ot_rf, ot_ucd, ot_ucs] at hz18
    refine tt_if_ne X 26 (by first | omega | (simp (disch := decide) only [ot_rd, ot_rs, ot_rf, ot_ucd, ot_ucs]; omega)) dX10_shade_21 (by decide) (fun b21 => ?_) (fun b21 => ?_)
    · refine tt_aload_n X rfl dX10_shade_26 ?_
      refine tt_getr X fX10_20 (k_60 _ _) (by decide) ⟨nofun, nofun⟩ rfl dX10_shade_27 ?_
      refine tt_iload_n X rfl dX10_shade_30 ?_
      refine tt_iload_n X rfl dX10_shade_31 ?_
      refine tt_iastore X (k_63 _ _) (by first | omega | (simp (disch := decide) only [ot_rd, ot_rs, ot_rf, ot_ucd, ot_ucs]; omega)) dX10_shade_32 ?_
      refine tt_aload_n X rfl dX10_shade_33 ?_
      refine tt_iconst X dX10_shade_34 ?_
      refine tt_puti X fX10_111 kc_10 (k_60 _ _) (by decide) (fun q hq => by cases hq; rfl) rfl dX10_shade_35 ?_
      refine tt_iconst X dX10_shade_38 ?_
      refine tt_zret X ⟨hr.1, hr.2.1⟩ (by omega) (by decide) (by decide) dX10_shade_39 ?_
      first | exact ⟨rfl, Or.inr ⟨by omega, rfl, rfl⟩⟩ | exact ⟨rfl, Or.inl ⟨by omega, rfl, rfl⟩⟩
    · refine tt_iconst X dX10_shade_24 ?_
      refine tt_zret X ⟨hr.1, hr.2.1⟩ (by omega) (by decide) (by decide) dX10_shade_25 ?_
      first | exact ⟨rfl, Or.inr ⟨by omega, rfl, rfl⟩⟩ | exact ⟨rfl, Or.inl ⟨by omega, rfl, rfl⟩⟩
set_option maxRecDepth 100000 in
set_option maxHeartbeats 4000000 in
theorem q_end (l : Launch) (g : ot_G) (ln : Nat) (ext : ot_L) (μ : ot_M) (h0 : μ 60 0 = 0) (n : Int) (hn : -2147483648 ≤ n ∧ n ≤ 2147483647)(hT : 0 ≤ μ 60 17 ∧ μ 60 17 ≤ 400) : ot_C l g yX10_end cX10_end 2 (some .boolean) 1 0 0 [.inr 60, .inl n] (LL ln ext) μ (ot_pi (fun r L2 μ2 => L2 = LL ln ext ∧ (((0 ≤ n ∧ n ≤ μ 60 17) ∧ r = 1 ∧ μ2 = ot_up μ 60 17 n) ∨ (¬ (0 ≤ n ∧ n ≤ μ 60 17) ∧ r = 0 ∧ μ2 = μ)))) := by
  refine ot_enter (by decide) (Nat.le_of_ble_eq_true rfl) ?_
  intro p e s m args below meth c X hr
  refine tt_aload_n X rfl dX10_end_0 ?_
  refine tt_iconst X dX10_end_1 ?_
  refine tt_puti X fX10_98 kc_10 (k_60 _ _) (by decide) (fun q hq => by cases hq; rfl) rfl dX10_end_2 ?_
  refine tt_mem (ot_nop h0) ?_
  refine tt_aload_n X rfl dX10_end_5 ?_
  refine tt_iload_n X rfl dX10_end_6 ?_
  refine tt_iconst X dX10_end_7 ?_
  refine tt_aload_n X rfl dX10_end_8 ?_
  refine tt_geti X fX10_128 (k_60 _ _) (by decide) (Or.inl rfl) dX10_end_9 ?_
  refine tt_vi X rfl mX10_104 (q_isIn l g ln ext _ _ _ _ (by first | omega | (simp (disch := decide) only [ot_rd, ot_rs, ot_rf, ot_ucd, ot_ucs]; omega)) (by first | omega | (simp (disch := decide) only [ot_rd, ot_rs, ot_rf, ot_ucd, ot_ucs]; omega)) (by first | omega | (simp (disch := decide) only [ot_rd, ot_rs, ot_rf, ot_ucd, ot_ucs]; omega))) (k_60 _ _) ⟨_, rfl, rfl⟩ rfl rfl (Nat.le_of_ble_eq_true rfl) (by decide) (by decide) (by decide) dX10_end_12 (fun z12 L12 μ12 hp => ?_)
  obtain ⟨rfl, e12, hz12⟩ := hp
  replace e12 := e12.symm
  subst e12
  try simp (disch := decide) only [ot_rd, ot_rs, ot_rf, ot_ucd, ot_ucs] at hz12
  refine tt_if_ne X 20 (by first | omega | (simp (disch := decide) only [ot_rd, ot_rs, ot_rf, ot_ucd, ot_ucs]; omega)) dX10_end_15 (by decide) (fun b15 => ?_) (fun b15 => ?_)
  · refine tt_aload_n X rfl dX10_end_20 ?_
    refine tt_iload_n X rfl dX10_end_21 ?_
    refine tt_puti X fX10_128 kc_10 (k_60 _ _) (by decide) (fun q hq => by cases hq; rfl) rfl dX10_end_22 ?_
    refine tt_iconst X dX10_end_25 ?_
    refine tt_zret X ⟨hr.1, hr.2.1⟩ (by omega) (by decide) (by decide) dX10_end_26 ?_
    first | exact ⟨rfl, Or.inr ⟨by omega, rfl, rfl⟩⟩ | exact ⟨rfl, Or.inl ⟨by omega, rfl, rfl⟩⟩
  · refine tt_iconst X dX10_end_18 ?_
    refine tt_zret X ⟨hr.1, hr.2.1⟩ (by omega) (by decide) (by decide) dX10_end_19 ?_
    first | exact ⟨rfl, Or.inr ⟨by omega, rfl, rfl⟩⟩ | exact ⟨rfl, Or.inl ⟨by omega, rfl, rfl⟩⟩
set_option maxRecDepth 100000 in
set_option maxHeartbeats 4000000 in
theorem q_fault (l : Launch) (g : ot_G) (ln : Nat) (ext : ot_L) (μ : ot_M) (h0 : μ 60 0 = 0) (w : Int) (hw : -2147483648 ≤ w ∧ w ≤ 2147483647) : ot_C l g yX10_fault cX10_fault 2 (some .int) 0 0 0 [.inr 60, .inl w] (LL ln ext) μ (ot_pi (fun r L2 μ2 => L2 = LL ln ext ∧ μ2 = μ ∧ r = (if w = 0 then μ 60 35 else if w = 1 then μ 60 36 else -1))) := by
  refine ot_enter (by decide) (Nat.le_of_ble_eq_true rfl) ?_
  intro p e s m args below meth c X hr
  refine tt_aload_n X rfl dX10_fault_0 ?_
  refine tt_iconst X dX10_fault_1 ?_
  refine tt_puti X fX10_98 kc_10 (k_60 _ _) (by decide) (fun q hq => by cases hq; rfl) rfl dX10_fault_2 ?_
  refine tt_mem (ot_nop h0) ?_
  refine tt_iload_n X rfl dX10_fault_5 ?_
  refine tt_if_ne X 16 (by omega) dX10_fault_6 (by decide) (fun b6 => ?_) (fun b6 => ?_)
  · refine tt_iload_n X rfl dX10_fault_16 ?_
    refine tt_iconst X dX10_fault_17 ?_
    refine tt_icmp_ne X 28 (by omega) dX10_fault_18 (by decide) (fun b18 => ?_) (fun b18 => ?_)
    · refine tt_iconst X dX10_fault_28 ?_
      refine tt_iret X ⟨hr.1, hr.2.1⟩ (by decide) (by decide) dX10_fault_29 ?_
      refine ⟨rfl, rfl, ?_⟩
      first | (rw [if_pos (by omega)]; done) | (rw [if_neg (by omega), if_pos (by omega)]; done) | rw [if_neg (by omega), if_neg (by omega)]
    · refine tt_aload_n X rfl dX10_fault_21 ?_
      refine tt_geti X fX10_71 (k_60 _ _) (by decide) (Or.inl rfl) dX10_fault_22 ?_
      refine tt_goto X 29 dX10_fault_25 (by decide) ?_
      refine tt_iret X ⟨hr.1, hr.2.1⟩ (by decide) (by decide) dX10_fault_29 ?_
      refine ⟨rfl, rfl, ?_⟩
      first | (rw [if_pos (by omega)]; done) | (rw [if_neg (by omega), if_pos (by omega)]; done) | rw [if_neg (by omega), if_neg (by omega)]
  · refine tt_aload_n X rfl dX10_fault_9 ?_
    refine tt_geti X fX10_217 (k_60 _ _) (by decide) (Or.inl rfl) dX10_fault_10 ?_
    refine tt_goto X 29 dX10_fault_13 (by decide) ?_
    refine tt_iret X ⟨hr.1, hr.2.1⟩ (by decide) (by decide) dX10_fault_29 ?_
    refine ⟨rfl, rfl, ?_⟩
    first | (rw [if_pos (by omega)]; done) | (rw [if_neg (by omega), if_pos (by omega)]; done) | rw [if_neg (by omega), if_neg (by omega)]
set_option maxRecDepth 100000 in
set_option maxHeartbeats 4000000 in
theorem q_clear (l : Launch) (g : ot_G) (ln : Nat) (ext : ot_L) (μ : ot_M) (h0 : μ 60 0 = 0)  : ot_C l g yX10_clear cX10_clear 2 (some .int) 0 0 0 [.inr 60] (LL ln ext) μ (ot_pi (fun r L2 μ2 => L2 = LL ln ext ∧ μ2 = ot_up μ 60 11 0 ∧ r = μ 60 11)) := by
  refine ot_enter (by decide) (Nat.le_of_ble_eq_true rfl) ?_
  intro p e s m args below meth c X hr
  refine tt_aload_n X rfl dX10_clear_0 ?_
  refine tt_iconst X dX10_clear_1 ?_
  refine tt_puti X fX10_98 kc_10 (k_60 _ _) (by decide) (fun q hq => by cases hq; rfl) rfl dX10_clear_2 ?_
  refine tt_mem (ot_nop h0) ?_
  refine tt_aload_n X rfl dX10_clear_5 ?_
  refine tt_geti X fX10_108 (k_60 _ _) (by decide) (Or.inl rfl) dX10_clear_6 ?_
  refine tt_istore_n X dX10_clear_9 (by decide) ?_
  refine tt_aload_n X rfl dX10_clear_10 ?_
  refine tt_iconst X dX10_clear_11 ?_
  refine tt_puti X fX10_108 kc_10 (k_60 _ _) (by decide) (fun q hq => by cases hq; rfl) rfl dX10_clear_12 ?_
  refine tt_iload_n X rfl dX10_clear_15 ?_
  refine tt_iret X ⟨hr.1, hr.2.1⟩ (by decide) (by decide) dX10_clear_16 ?_
  exact ⟨rfl, rfl, rfl⟩
set_option maxRecDepth 100000 in
set_option maxHeartbeats 4000000 in
theorem q_wound (l : Launch) (g : ot_G) (ln : Nat) (ext : ot_L) (μ : ot_M) (h0 : μ 60 0 = 0) (t i : Int) (ht : -2147483648 ≤ t ∧ t ≤ 2147483647) (hi : -2147483648 ≤ i ∧ i ≤ 2147483647)(hC : ∀ t, 0 ≤ t → t < 3 → 0 ≤ μ 64 t ∧ μ 64 t ≤ 120)  : ot_C l g yX10_wound cX10_wound 3 (some .int) 1 0 0 [.inr 60, .inl t, .inl i] (LL ln ext) μ (ot_pi (fun r L2 μ2 => L2 = LL ln ext ∧ μ2 = μ ∧ r = (if 0 ≤ t ∧ t < 3 then (if i = -1 then μ 64 t else if 0 ≤ i ∧ i < μ 64 t then μ 65 (120 * t + i) else -1) else -1))) := by
  refine ot_enter (by decide) (Nat.le_of_ble_eq_true rfl) ?_
  intro p e s m args below meth c X hr
  refine tt_aload_n X rfl dX10_wound_0 ?_
  refine tt_iconst X dX10_wound_1 ?_
  refine tt_puti X fX10_98 kc_10 (k_60 _ _) (by decide) (fun q hq => by cases hq; rfl) rfl dX10_wound_2 ?_
  refine tt_mem (ot_nop h0) ?_
  refine tt_aload_n X rfl dX10_wound_5 ?_
  refine tt_iload_n X rfl dX10_wound_6 ?_
  refine tt_vi X rfl mX10_125 (q_isThread l g ln ext _ _ (by first | omega | (simp (disch := decide) only [ot_rd, ot_rs, ot_rf, ot_ucd, ot_ucs]; omega))) (k_60 _ _) ⟨_, rfl, rfl⟩ rfl rfl (Nat.le_of_ble_eq_true rfl) (by decide) (by decide) (by decide) dX10_wound_7 (fun z7 L7 μ7 hp => ?_)
  obtain ⟨rfl, e7, hz7⟩ := hp
  replace e7 := e7.symm
  subst e7
  try simp (disch := decide) only [ot_rd, ot_rs, ot_rf, ot_ucd, ot_ucs] at hz7
  refine tt_if_ne X 15 (by first | omega | (simp (disch := decide) only [ot_rd, ot_rs, ot_rf, ot_ucd, ot_ucs]; omega)) dX10_wound_10 (by decide) (fun b10 => ?_) (fun b10 => ?_)
  · have hCt := hC t (by omega) (by omega)
    refine tt_iload_n X rfl dX10_wound_15 ?_
    refine tt_iconst X dX10_wound_16 ?_
    refine tt_icmp_ne X 29 (by first | omega | (simp (disch := decide) only [ot_rd, ot_rs, ot_rf, ot_ucd, ot_ucs]; omega)) dX10_wound_17 (by decide) (fun b17 => ?_) (fun b17 => ?_)
    · refine tt_aload_n X rfl dX10_wound_29 ?_
      refine tt_iload_n X rfl dX10_wound_30 ?_
      refine tt_iconst X dX10_wound_31 ?_
      refine tt_aload_n X rfl dX10_wound_32 ?_
      refine tt_getr X fX10_23 (k_60 _ _) (by decide) ⟨nofun, nofun⟩ rfl dX10_wound_33 ?_
      refine tt_iload_n X rfl dX10_wound_36 ?_
      refine tt_iaload X (k_64 _ _) (by first | omega | (simp (disch := decide) only [ot_rd, ot_rs, ot_rf, ot_ucd, ot_ucs]; omega)) dX10_wound_37 ?_
      try simp (disch := decide) only [ot_rd, ot_rs, ot_rf, ot_ucd, ot_ucs]
      refine tt_iconst X dX10_wound_38 ?_
      refine tt_isub X dX10_wound_39 ?_
      refine tt_vi X rfl mX10_104 (q_isIn l g ln ext _ _ _ _ (by first | omega | (simp (disch := decide) only [ot_rd, ot_rs, ot_rf, ot_ucd, ot_ucs]; omega)) (by first | omega | (simp (disch := decide) only [ot_rd, ot_rs, ot_rf, ot_ucd, ot_ucs]; omega)) (by first | omega | (simp (disch := decide) only [ot_rd, ot_rs, ot_rf, ot_ucd, ot_ucs]; omega))) (k_60 _ _) ⟨_, rfl, rfl⟩ rfl rfl (Nat.le_of_ble_eq_true rfl) (by decide) (by decide) (by decide) dX10_wound_40 (fun z40 L40 μ40 hp => ?_)
      obtain ⟨rfl, e40, hz40⟩ := hp
      replace e40 := e40.symm
      subst e40
      try simp (disch := decide) only [ot_rd, ot_rs, ot_rf, ot_ucd, ot_ucs] at hz40
      refine tt_if_eq X 55 (by first | omega | (simp (disch := decide) only [ot_rd, ot_rs, ot_rf, ot_ucd, ot_ucs]; omega)) dX10_wound_43 (by decide) (fun b43 => ?_) (fun b43 => ?_)
      · refine tt_iconst X dX10_wound_55 ?_
        refine tt_iret X ⟨hr.1, hr.2.1⟩ (by decide) (by decide) dX10_wound_56 ?_
        refine ⟨rfl, rfl, ?_⟩
        first | (rw [if_neg (by omega)]; done) | (rw [if_pos (by omega), if_pos (by omega)]; done) | (rw [if_pos (by omega), if_neg (by omega), if_pos (by omega)]; first | rfl | exact hz49) | rw [if_pos (by omega), if_neg (by omega), if_neg (by omega)]
      · refine tt_aload_n X rfl dX10_wound_46 ?_
        refine tt_iload_n X rfl dX10_wound_47 ?_
        refine tt_iload_n X rfl dX10_wound_48 ?_
        refine tt_vi X rfl mX10_239 (q_woundAt l g ln ext _ _ _ (by first | omega | (simp (disch := decide) only [ot_rd, ot_rs, ot_rf, ot_ucd, ot_ucs]; omega)) (by first | omega | (simp (disch := decide) only [ot_rd, ot_rs, ot_rf, ot_ucd, ot_ucs]; omega))) (k_60 _ _) ⟨_, rfl, rfl⟩ rfl rfl (Nat.le_of_ble_eq_true rfl) (by decide) (by decide) (by decide) dX10_wound_49 (fun z49 L49 μ49 hp => ?_)
        obtain ⟨rfl, e49, hz49⟩ := hp
        replace e49 := e49.symm
        subst e49
        try simp (disch := decide) only [ot_rd, ot_rs, ot_rf, ot_ucd, ot_ucs] at hz49
        refine tt_goto X 56 dX10_wound_52 (by decide) ?_
        refine tt_iret X ⟨hr.1, hr.2.1⟩ (by decide) (by decide) dX10_wound_56 ?_
        refine ⟨rfl, rfl, ?_⟩
        first | (rw [if_neg (by omega)]; done) | (rw [if_pos (by omega), if_pos (by omega)]; done) | (rw [if_pos (by omega), if_neg (by omega), if_pos (by omega)]; first | rfl | exact hz49) | rw [if_pos (by omega), if_neg (by omega), if_neg (by omega)]
    · refine tt_aload_n X rfl dX10_wound_20 ?_
      refine tt_getr X fX10_23 (k_60 _ _) (by decide) ⟨nofun, nofun⟩ rfl dX10_wound_21 ?_
      refine tt_iload_n X rfl dX10_wound_24 ?_
      refine tt_iaload X (k_64 _ _) (by first | omega | (simp (disch := decide) only [ot_rd, ot_rs, ot_rf, ot_ucd, ot_ucs]; omega)) dX10_wound_25 ?_
      try simp (disch := decide) only [ot_rd, ot_rs, ot_rf, ot_ucd, ot_ucs]
      refine tt_goto X 56 dX10_wound_26 (by decide) ?_
      refine tt_iret X ⟨hr.1, hr.2.1⟩ (by decide) (by decide) dX10_wound_56 ?_
      refine ⟨rfl, rfl, ?_⟩
      first | (rw [if_neg (by omega)]; done) | (rw [if_pos (by omega), if_pos (by omega)]; done) | (rw [if_pos (by omega), if_neg (by omega), if_pos (by omega)]; first | rfl | exact hz49) | rw [if_pos (by omega), if_neg (by omega), if_neg (by omega)]
  · refine tt_iconst X dX10_wound_13 ?_
    refine tt_iret X ⟨hr.1, hr.2.1⟩ (by decide) (by decide) dX10_wound_14 ?_
    refine ⟨rfl, rfl, ?_⟩
    first | (rw [if_neg (by omega)]; done) | (rw [if_pos (by omega), if_pos (by omega)]; done) | (rw [if_pos (by omega), if_neg (by omega), if_pos (by omega)]; first | rfl | exact hz49) | rw [if_pos (by omega), if_neg (by omega), if_neg (by omega)]
set_option maxRecDepth 100000 in
set_option maxHeartbeats 4000000 in
theorem q_rub (l : Launch) (g : ot_G) (ln : Nat) (ext : ot_L) (μ : ot_M) (h0 : μ 60 0 = 0) (t n : Int) (ht : -2147483648 ≤ t ∧ t ≤ 2147483647) (hn : -2147483648 ≤ n ∧ n ≤ 2147483647)(hC : ∀ t, 0 ≤ t → t < 3 → 0 ≤ μ 64 t ∧ μ 64 t ≤ 120)  : ot_C l g yX10_rub cX10_rub 3 (some .int) 1 0 0 [.inr 60, .inl t, .inl n] (LL ln ext) μ (ot_pi (fun r L2 μ2 => L2 = LL ln ext ∧ (((0 ≤ t ∧ t < 3 ∧ 0 ≤ n ∧ n ≤ μ 64 t) ∧ r = μ 64 t - n ∧ μ2 = ot_up (ot_up μ 64 t (μ 64 t - n)) 60 14 0) ∨ (¬ (0 ≤ t ∧ t < 3 ∧ 0 ≤ n ∧ n ≤ μ 64 t) ∧ r = -1 ∧ μ2 = μ)))) := by
  refine ot_enter (by decide) (Nat.le_of_ble_eq_true rfl) ?_
  intro p e s m args below meth c X hr
  refine tt_aload_n X rfl dX10_rub_0 ?_
  refine tt_iconst X dX10_rub_1 ?_
  refine tt_puti X fX10_98 kc_10 (k_60 _ _) (by decide) (fun q hq => by cases hq; rfl) rfl dX10_rub_2 ?_
  refine tt_mem (ot_nop h0) ?_
  refine tt_aload_n X rfl dX10_rub_5 ?_
  refine tt_iload_n X rfl dX10_rub_6 ?_
  refine tt_vi X rfl mX10_125 (q_isThread l g ln ext _ _ (by first | omega | (simp (disch := decide) only [ot_rd, ot_rs, ot_rf, ot_ucd, ot_ucs]; omega))) (k_60 _ _) ⟨_, rfl, rfl⟩ rfl rfl (Nat.le_of_ble_eq_true rfl) (by decide) (by decide) (by decide) dX10_rub_7 (fun z7 L7 μ7 hp => ?_)
  obtain ⟨rfl, e7, hz7⟩ := hp
  replace e7 := e7.symm
  subst e7
  try simp (disch := decide) only [ot_rd, ot_rs, ot_rf, ot_ucd, ot_ucs] at hz7
  refine tt_if_eq X 28 (by first | omega | (simp (disch := decide) only [ot_rd, ot_rs, ot_rf, ot_ucd, ot_ucs]; omega)) dX10_rub_10 (by decide) (fun b10 => ?_) (fun b10 => ?_)
  · refine tt_iconst X dX10_rub_28 ?_
    refine tt_iret X ⟨hr.1, hr.2.1⟩ (by decide) (by decide) dX10_rub_29 ?_
    first | exact ⟨rfl, Or.inr ⟨by omega, rfl, rfl⟩⟩ | exact ⟨rfl, Or.inl ⟨by omega, rfl, rfl⟩⟩
  · have hCt := hC t (by omega) (by omega)
    refine tt_aload_n X rfl dX10_rub_13 ?_
    refine tt_iload_n X rfl dX10_rub_14 ?_
    refine tt_iconst X dX10_rub_15 ?_
    refine tt_aload_n X rfl dX10_rub_16 ?_
    refine tt_getr X fX10_23 (k_60 _ _) (by decide) ⟨nofun, nofun⟩ rfl dX10_rub_17 ?_
    refine tt_iload_n X rfl dX10_rub_20 ?_
    refine tt_iaload X (k_64 _ _) (by first | omega | (simp (disch := decide) only [ot_rd, ot_rs, ot_rf, ot_ucd, ot_ucs]; omega)) dX10_rub_21 ?_
    try simp (disch := decide) only [ot_rd, ot_rs, ot_rf, ot_ucd, ot_ucs]
    refine tt_vi X rfl mX10_104 (q_isIn l g ln ext _ _ _ _ (by first | omega | (simp (disch := decide) only [ot_rd, ot_rs, ot_rf, ot_ucd, ot_ucs]; omega)) (by first | omega | (simp (disch := decide) only [ot_rd, ot_rs, ot_rf, ot_ucd, ot_ucs]; omega)) (by first | omega | (simp (disch := decide) only [ot_rd, ot_rs, ot_rf, ot_ucd, ot_ucs]; omega))) (k_60 _ _) ⟨_, rfl, rfl⟩ rfl rfl (Nat.le_of_ble_eq_true rfl) (by decide) (by decide) (by decide) dX10_rub_22 (fun z22 L22 μ22 hp => ?_)
    obtain ⟨rfl, e22, hz22⟩ := hp
    replace e22 := e22.symm
    subst e22
    try simp (disch := decide) only [ot_rd, ot_rs, ot_rf, ot_ucd, ot_ucs] at hz22
    refine tt_if_ne X 30 (by first | omega | (simp (disch := decide) only [ot_rd, ot_rs, ot_rf, ot_ucd, ot_ucs]; omega)) dX10_rub_25 (by decide) (fun b25 => ?_) (fun b25 => ?_)
    · refine tt_aload_n X rfl dX10_rub_30 ?_
      refine tt_getr X fX10_23 (k_60 _ _) (by decide) ⟨nofun, nofun⟩ rfl dX10_rub_31 ?_
      refine tt_iload_n X rfl dX10_rub_34 ?_
      refine tt_aload_n X rfl dX10_rub_35 ?_
      refine tt_getr X fX10_23 (k_60 _ _) (by decide) ⟨nofun, nofun⟩ rfl dX10_rub_36 ?_
      refine tt_iload_n X rfl dX10_rub_39 ?_
      refine tt_iaload X (k_64 _ _) (by first | omega | (simp (disch := decide) only [ot_rd, ot_rs, ot_rf, ot_ucd, ot_ucs]; omega)) dX10_rub_40 ?_
      try simp (disch := decide) only [ot_rd, ot_rs, ot_rf, ot_ucd, ot_ucs]
      refine tt_iload_n X rfl dX10_rub_41 ?_
      refine tt_isub X dX10_rub_42 ?_
      refine tt_iastore X (k_64 _ _) (by first | omega | (simp (disch := decide) only [ot_rd, ot_rs, ot_rf, ot_ucd, ot_ucs]; omega)) dX10_rub_43 ?_
      refine tt_aload_n X rfl dX10_rub_44 ?_
      refine tt_iconst X dX10_rub_45 ?_
      refine tt_puti X fX10_111 kc_10 (k_60 _ _) (by decide) (fun q hq => by cases hq; rfl) rfl dX10_rub_46 ?_
      refine tt_aload_n X rfl dX10_rub_49 ?_
      refine tt_getr X fX10_23 (k_60 _ _) (by decide) ⟨nofun, nofun⟩ rfl dX10_rub_50 ?_
      refine tt_iload_n X rfl dX10_rub_53 ?_
      refine tt_iaload X (k_64 _ _) (by first | omega | (simp (disch := decide) only [ot_rd, ot_rs, ot_rf, ot_ucd, ot_ucs]; omega)) dX10_rub_54 ?_
      try simp (disch := decide) only [ot_rd, ot_rs, ot_rf, ot_ucd, ot_ucs]
      refine tt_iret X ⟨hr.1, hr.2.1⟩ (by decide) (by decide) dX10_rub_55 ?_
      first | exact ⟨rfl, Or.inr ⟨by omega, rfl, rfl⟩⟩ | exact ⟨rfl, Or.inl ⟨by omega, rfl, rfl⟩⟩
    · refine tt_iconst X dX10_rub_28 ?_
      refine tt_iret X ⟨hr.1, hr.2.1⟩ (by decide) (by decide) dX10_rub_29 ?_
      first | exact ⟨rfl, Or.inr ⟨by omega, rfl, rfl⟩⟩ | exact ⟨rfl, Or.inl ⟨by omega, rfl, rfl⟩⟩
set_option maxRecDepth 100000 in
set_option maxHeartbeats 4000000 in
theorem q_undo (l : Launch) (g : ot_G) (ln : Nat) (ext : ot_L) (μ : ot_M) (h0 : μ 60 0 = 0) (hU : 0 ≤ μ 60 14 ∧ μ 60 14 ≤ 40) (hT : ∀ i, 0 ≤ i → i < μ 60 14 → 0 ≤ μ 71 i ∧ μ 71 i < 3)  : ot_C l g yX10_undo cX10_undo 1 (some .boolean) 0 0 0 [.inr 60] (LL ln ext) μ (ot_pi (fun r L2 μ2 => L2 = LL ln ext ∧ ((0 < μ 60 14 ∧ r = 1 ∧ μ2 = ot_up (ot_up μ 60 14 (μ 60 14 - 1)) 64 (μ 71 (μ 60 14 - 1)) (μ 64 (μ 71 (μ 60 14 - 1)) - 1)) ∨ (μ 60 14 = 0 ∧ r = 0 ∧ μ2 = μ)))) := by
  refine ot_enter (by decide) (Nat.le_of_ble_eq_true rfl) ?_
  intro p e s m args below meth c X hr
  refine tt_aload_n X rfl dX10_undo_0 ?_
  refine tt_iconst X dX10_undo_1 ?_
  refine tt_puti X fX10_98 kc_10 (k_60 _ _) (by decide) (fun q hq => by cases hq; rfl) rfl dX10_undo_2 ?_
  refine tt_mem (ot_nop h0) ?_
  refine tt_aload_n X rfl dX10_undo_5 ?_
  refine tt_geti X fX10_111 (k_60 _ _) (by decide) (Or.inl rfl) dX10_undo_6 ?_
  refine tt_if_ne X 14 (by omega) dX10_undo_9 (by decide) (fun b9 => ?_) (fun b9 => ?_)
  · have hTt := hT (μ 60 14 - 1) (by omega) (by omega)
    refine tt_aload_n X rfl dX10_undo_14 ?_
    refine tt_aload_n X rfl dX10_undo_15 ?_
    refine tt_geti X fX10_111 (k_60 _ _) (by decide) (Or.inl rfl) dX10_undo_16 ?_
    refine tt_iconst X dX10_undo_19 ?_
    refine tt_isub X dX10_undo_20 ?_
    refine tt_puti X fX10_111 kc_10 (k_60 _ _) (by decide) (fun q hq => by cases hq; rfl) rfl dX10_undo_21 ?_
    refine tt_aload_n X rfl dX10_undo_24 ?_
    refine tt_getr X fX10_23 (k_60 _ _) (by decide) ⟨nofun, nofun⟩ rfl dX10_undo_25 ?_
    refine tt_aload_n X rfl dX10_undo_28 ?_
    refine tt_getr X fX10_44 (k_60 _ _) (by decide) ⟨nofun, nofun⟩ rfl dX10_undo_29 ?_
    refine tt_aload_n X rfl dX10_undo_32 ?_
    refine tt_geti X fX10_111 (k_60 _ _) (by decide) (Or.inl rfl) dX10_undo_33 ?_
    try simp (disch := decide) only [ot_rd, ot_rs, ot_rf, ot_ucd, ot_ucs]
    refine tt_iaload X (k_71 _ _) (by first | omega | (simp (disch := decide) only [ot_rd, ot_rs, ot_rf, ot_ucd, ot_ucs]; omega)) dX10_undo_36 ?_
    try simp (disch := decide) only [ot_rd, ot_rs, ot_rf, ot_ucd, ot_ucs]
    refine tt_aload_n X rfl dX10_undo_37 ?_
    refine tt_getr X fX10_23 (k_60 _ _) (by decide) ⟨nofun, nofun⟩ rfl dX10_undo_38 ?_
    refine tt_aload_n X rfl dX10_undo_41 ?_
    refine tt_getr X fX10_44 (k_60 _ _) (by decide) ⟨nofun, nofun⟩ rfl dX10_undo_42 ?_
    refine tt_aload_n X rfl dX10_undo_45 ?_
    refine tt_geti X fX10_111 (k_60 _ _) (by decide) (Or.inl rfl) dX10_undo_46 ?_
    try simp (disch := decide) only [ot_rd, ot_rs, ot_rf, ot_ucd, ot_ucs]
    refine tt_iaload X (k_71 _ _) (by first | omega | (simp (disch := decide) only [ot_rd, ot_rs, ot_rf, ot_ucd, ot_ucs]; omega)) dX10_undo_49 ?_
    try simp (disch := decide) only [ot_rd, ot_rs, ot_rf, ot_ucd, ot_ucs]
    refine tt_iaload X (k_64 _ _) (by first | omega | (simp (disch := decide) only [ot_rd, ot_rs, ot_rf, ot_ucd, ot_ucs]; omega)) dX10_undo_50 ?_
    try simp (disch := decide) only [ot_rd, ot_rs, ot_rf, ot_ucd, ot_ucs]
    refine tt_iconst X dX10_undo_51 ?_
    refine tt_isub X dX10_undo_52 ?_
    refine tt_iastore X (k_64 _ _) (by first | omega | (simp (disch := decide) only [ot_rd, ot_rs, ot_rf, ot_ucd, ot_ucs]; omega)) dX10_undo_53 ?_
    refine tt_iconst X dX10_undo_54 ?_
    refine tt_zret X ⟨hr.1, hr.2.1⟩ (by omega) (by decide) (by decide) dX10_undo_55 ?_
    first | exact ⟨rfl, Or.inr ⟨by omega, rfl, rfl⟩⟩ | exact ⟨rfl, Or.inl ⟨by omega, rfl, rfl⟩⟩
  · refine tt_iconst X dX10_undo_12 ?_
    refine tt_zret X ⟨hr.1, hr.2.1⟩ (by omega) (by decide) (by decide) dX10_undo_13 ?_
    first | exact ⟨rfl, Or.inr ⟨by omega, rfl, rfl⟩⟩ | exact ⟨rfl, Or.inl ⟨by omega, rfl, rfl⟩⟩
set_option maxRecDepth 100000 in
set_option maxHeartbeats 4000000 in
theorem q_pin (l : Launch) (g : ot_G) (ln : Nat) (ext : ot_L) (μ : ot_M) (h0 : μ 60 0 = 0) (x y : Int) (hx : -2147483648 ≤ x ∧ x ≤ 2147483647) (hy : -2147483648 ≤ y ∧ y ≤ 2147483647)(hS : 2 ≤ μ 60 1 ∧ μ 60 1 ≤ 8) (hN : 0 ≤ μ 60 2 ∧ μ 60 2 ≤ 24) (hP : ∀ i, 0 ≤ i → i < μ 60 2 → (0 ≤ μ 61 i ∧ μ 61 i ≤ 8) ∧ (0 ≤ μ 62 i ∧ μ 62 i ≤ 8))  : ot_C l g yX10_pin cX10_pin 4 (some .int) 1 0 0 [.inr 60, .inl x, .inl y] (LL ln ext) μ (ot_pi (fun r L2 μ2 => L2 = LL ln ext ∧ ((((0 ≤ x ∧ x ≤ μ 60 1 ∧ 0 ≤ y ∧ y ≤ μ 60 1 ∧ μ 60 2 < 24) ∧ ∀ i, 0 ≤ i → i < μ 60 2 → ¬ (μ 61 i = x ∧ μ 62 i = y)) ∧ r = μ 60 2 ∧ μ2 = ot_up (ot_up (ot_up (ot_up μ 61 (μ 60 2) x) 62 (μ 60 2) y) 60 2 (μ 60 2 + 1)) 60 14 0) ∨ (¬ ((0 ≤ x ∧ x ≤ μ 60 1 ∧ 0 ≤ y ∧ y ≤ μ 60 1 ∧ μ 60 2 < 24) ∧ ∀ i, 0 ≤ i → i < μ 60 2 → ¬ (μ 61 i = x ∧ μ 62 i = y)) ∧ r = -1 ∧ μ2 = μ)))) := by
  refine ot_enter (by decide) (Nat.le_of_ble_eq_true rfl) ?_
  intro p e s m args below meth c X hr
  refine tt_aload_n X rfl dX10_pin_0 ?_
  refine tt_iconst X dX10_pin_1 ?_
  refine tt_puti X fX10_98 kc_10 (k_60 _ _) (by decide) (fun q hq => by cases hq; rfl) rfl dX10_pin_2 ?_
  refine tt_mem (ot_nop h0) ?_
  refine tt_aload_n X rfl dX10_pin_5 ?_
  refine tt_iload_n X rfl dX10_pin_6 ?_
  refine tt_iconst X dX10_pin_7 ?_
  refine tt_aload_n X rfl dX10_pin_8 ?_
  refine tt_geti X fX10_7 (k_60 _ _) (by decide) (Or.inl rfl) dX10_pin_9 ?_
  refine tt_vi X rfl mX10_104 (q_isIn l g ln ext _ _ _ _ (by first | omega | (simp (disch := decide) only [ot_rd, ot_rs, ot_rf, ot_ucd, ot_ucs]; omega)) (by first | omega | (simp (disch := decide) only [ot_rd, ot_rs, ot_rf, ot_ucd, ot_ucs]; omega)) (by first | omega | (simp (disch := decide) only [ot_rd, ot_rs, ot_rf, ot_ucd, ot_ucs]; omega))) (k_60 _ _) ⟨_, rfl, rfl⟩ rfl rfl (Nat.le_of_ble_eq_true rfl) (by decide) (by decide) (by decide) dX10_pin_12 (fun z12 L12 μ12 hp => ?_)
  obtain ⟨rfl, e12, hz12⟩ := hp
  replace e12 := e12.symm
  subst e12
  try simp (disch := decide) only [ot_rd, ot_rs, ot_rf, ot_ucd, ot_ucs] at hz12
  refine tt_if_eq X 40 (by first | omega | (simp (disch := decide) only [ot_rd, ot_rs, ot_rf, ot_ucd, ot_ucs]; omega)) dX10_pin_15 (by decide) (fun b15 => ?_) (fun b15 => ?_)
  · refine tt_iconst X dX10_pin_40 ?_
    refine tt_iret X ⟨hr.1, hr.2.1⟩ (by decide) (by decide) dX10_pin_41 ?_
    exact ⟨rfl, Or.inr ⟨fun h => absurd h.1 (by omega), rfl, rfl⟩⟩
  · refine tt_aload_n X rfl dX10_pin_18 ?_
    refine tt_iload_n X rfl dX10_pin_19 ?_
    refine tt_iconst X dX10_pin_20 ?_
    refine tt_aload_n X rfl dX10_pin_21 ?_
    refine tt_geti X fX10_7 (k_60 _ _) (by decide) (Or.inl rfl) dX10_pin_22 ?_
    try simp (disch := decide) only [ot_rd, ot_rs, ot_rf, ot_ucd, ot_ucs]
    refine tt_vi X rfl mX10_104 (q_isIn l g ln ext _ _ _ _ (by first | omega | (simp (disch := decide) only [ot_rd, ot_rs, ot_rf, ot_ucd, ot_ucs]; omega)) (by first | omega | (simp (disch := decide) only [ot_rd, ot_rs, ot_rf, ot_ucd, ot_ucs]; omega)) (by first | omega | (simp (disch := decide) only [ot_rd, ot_rs, ot_rf, ot_ucd, ot_ucs]; omega))) (k_60 _ _) ⟨_, rfl, rfl⟩ rfl rfl (Nat.le_of_ble_eq_true rfl) (by decide) (by decide) (by decide) dX10_pin_25 (fun z25 L25 μ25 hp => ?_)
    obtain ⟨rfl, e25, hz25⟩ := hp
    replace e25 := e25.symm
    subst e25
    try simp (disch := decide) only [ot_rd, ot_rs, ot_rf, ot_ucd, ot_ucs] at hz25
    refine tt_if_eq X 40 (by first | omega | (simp (disch := decide) only [ot_rd, ot_rs, ot_rf, ot_ucd, ot_ucs]; omega)) dX10_pin_28 (by decide) (fun b28 => ?_) (fun b28 => ?_)
    · refine tt_iconst X dX10_pin_40 ?_
      refine tt_iret X ⟨hr.1, hr.2.1⟩ (by decide) (by decide) dX10_pin_41 ?_
      exact ⟨rfl, Or.inr ⟨fun h => absurd h.1 (by omega), rfl, rfl⟩⟩
    · refine tt_aload_n X rfl dX10_pin_31 ?_
      refine tt_geti X fX10_101 (k_60 _ _) (by decide) (Or.inl rfl) dX10_pin_32 ?_
      try simp (disch := decide) only [ot_rd, ot_rs, ot_rf, ot_ucd, ot_ucs]
      refine tt_bipush X (by decide) dX10_pin_35 ?_
      refine tt_icmp_ne X 42 (by first | omega | (simp (disch := decide) only [ot_rd, ot_rs, ot_rf, ot_ucd, ot_ucs]; omega)) dX10_pin_37 (by decide) (fun b37 => ?_) (fun b37 => ?_)
      · refine tt_iconst X dX10_pin_42 ?_
        refine tt_istore_n X dX10_pin_43 (by decide) ?_
        refine tt_loc [(0, _), (1, _), (2, _), (3, _)] ⟨rfl, rfl, rfl, rfl, trivial⟩ ?_
        refine tt_loop (α := Int) (fun i => (μ 60 2 - i).toNat) (fun i => 0 ≤ i ∧ i ≤ μ 60 2 ∧ ∀ j, 0 ≤ j → j < i → ¬ (μ 61 j = x ∧ μ 62 j = y)) (fun i => μ) (fun i => [(0, .inr 60), (1, .inl x), (2, .inl y), (3, .inl i)]) 0 ⟨by omega, by omega, fun j h1 h2 => absurd h1 (by omega)⟩ ?_
        intro i hI ih
        try dsimp only at hI ih ⊢
        have hPi := hP i (by omega)
        refine tt_iload_n X rfl dX10_pin_44 ?_
        refine tt_aload_n X rfl dX10_pin_45 ?_
        refine tt_geti X fX10_101 (k_60 _ _) (by decide) (Or.inl rfl) dX10_pin_46 ?_
        try simp (disch := decide) only [ot_rd, ot_rs, ot_rf, ot_ucd, ot_ucs]
        refine tt_icmp_ge X 80 (by first | omega | (simp (disch := decide) only [ot_rd, ot_rs, ot_rf, ot_ucd, ot_ucs]; omega)) dX10_pin_49 (by decide) (fun b49 => ?_) (fun b49 => ?_)
        · refine tt_aload_n X rfl dX10_pin_80 ?_
          refine tt_getr X fX10_13 (k_60 _ _) (by decide) ⟨nofun, nofun⟩ rfl dX10_pin_81 ?_
          refine tt_aload_n X rfl dX10_pin_84 ?_
          refine tt_geti X fX10_101 (k_60 _ _) (by decide) (Or.inl rfl) dX10_pin_85 ?_
          try simp (disch := decide) only [ot_rd, ot_rs, ot_rf, ot_ucd, ot_ucs]
          refine tt_iload_n X rfl dX10_pin_88 ?_
          refine tt_iastore X (k_61 _ _) (by first | omega | (simp (disch := decide) only [ot_rd, ot_rs, ot_rf, ot_ucd, ot_ucs]; omega)) dX10_pin_89 ?_
          refine tt_aload_n X rfl dX10_pin_90 ?_
          refine tt_getr X fX10_17 (k_60 _ _) (by decide) ⟨nofun, nofun⟩ rfl dX10_pin_91 ?_
          refine tt_aload_n X rfl dX10_pin_94 ?_
          refine tt_geti X fX10_101 (k_60 _ _) (by decide) (Or.inl rfl) dX10_pin_95 ?_
          try simp (disch := decide) only [ot_rd, ot_rs, ot_rf, ot_ucd, ot_ucs]
          refine tt_iload_n X rfl dX10_pin_98 ?_
          refine tt_iastore X (k_62 _ _) (by first | omega | (simp (disch := decide) only [ot_rd, ot_rs, ot_rf, ot_ucd, ot_ucs]; omega)) dX10_pin_99 ?_
          refine tt_aload_n X rfl dX10_pin_100 ?_
          refine tt_aload_n X rfl dX10_pin_101 ?_
          refine tt_geti X fX10_101 (k_60 _ _) (by decide) (Or.inl rfl) dX10_pin_102 ?_
          try simp (disch := decide) only [ot_rd, ot_rs, ot_rf, ot_ucd, ot_ucs]
          refine tt_iconst X dX10_pin_105 ?_
          refine tt_iadd X dX10_pin_106 ?_
          refine tt_puti X fX10_101 kc_10 (k_60 _ _) (by decide) (fun q hq => by cases hq; rfl) rfl dX10_pin_107 ?_
          refine tt_aload_n X rfl dX10_pin_110 ?_
          refine tt_iconst X dX10_pin_111 ?_
          refine tt_puti X fX10_111 kc_10 (k_60 _ _) (by decide) (fun q hq => by cases hq; rfl) rfl dX10_pin_112 ?_
          refine tt_aload_n X rfl dX10_pin_115 ?_
          refine tt_geti X fX10_101 (k_60 _ _) (by decide) (Or.inl rfl) dX10_pin_116 ?_
          try simp (disch := decide) only [ot_rd, ot_rs, ot_rf, ot_ucd, ot_ucs]
          refine tt_iconst X dX10_pin_119 ?_
          refine tt_isub X dX10_pin_120 ?_
          refine tt_iret X ⟨hr.1, hr.2.1⟩ (by decide) (by decide) dX10_pin_121 ?_
          refine ⟨rfl, Or.inl ⟨⟨by omega, fun j h1 h2 => hI.2.2 j h1 (by omega)⟩, ?_, rfl⟩⟩
          first | omega | (simp (disch := decide) only [ot_rd, ot_rs, ot_rf]; omega)
        · refine tt_aload_n X rfl dX10_pin_52 ?_
          refine tt_getr X fX10_13 (k_60 _ _) (by decide) ⟨nofun, nofun⟩ rfl dX10_pin_53 ?_
          refine tt_iload_n X rfl dX10_pin_56 ?_
          refine tt_iaload X (k_61 _ _) (by first | omega | (simp (disch := decide) only [ot_rd, ot_rs, ot_rf, ot_ucd, ot_ucs]; omega)) dX10_pin_57 ?_
          try simp (disch := decide) only [ot_rd, ot_rs, ot_rf, ot_ucd, ot_ucs]
          refine tt_iload_n X rfl dX10_pin_58 ?_
          refine tt_icmp_ne X 74 (by first | omega | (simp (disch := decide) only [ot_rd, ot_rs, ot_rf, ot_ucd, ot_ucs]; omega)) dX10_pin_59 (by decide) (fun b59 => ?_) (fun b59 => ?_)
          · refine tt_iinc X dX10_pin_74 rfl (by decide) ?_
            refine tt_goto X 44 dX10_pin_77 (by decide) ?_
            refine tt_loc [(0, _), (1, _), (2, _), (3, _)] ⟨rfl, rfl, rfl, rfl, trivial⟩ ?_
            refine ih (i + 1) ⟨by omega, by omega, fun j h1 h2 => ?_⟩ (by omega)
            rcases (show j < i ∨ j = i by omega) with q | q
            · exact hI.2.2 j h1 q
            · subst q; omega
          · refine tt_aload_n X rfl dX10_pin_62 ?_
            refine tt_getr X fX10_17 (k_60 _ _) (by decide) ⟨nofun, nofun⟩ rfl dX10_pin_63 ?_
            refine tt_iload_n X rfl dX10_pin_66 ?_
            refine tt_iaload X (k_62 _ _) (by first | omega | (simp (disch := decide) only [ot_rd, ot_rs, ot_rf, ot_ucd, ot_ucs]; omega)) dX10_pin_67 ?_
            try simp (disch := decide) only [ot_rd, ot_rs, ot_rf, ot_ucd, ot_ucs]
            refine tt_iload_n X rfl dX10_pin_68 ?_
            refine tt_icmp_ne X 74 (by first | omega | (simp (disch := decide) only [ot_rd, ot_rs, ot_rf, ot_ucd, ot_ucs]; omega)) dX10_pin_69 (by decide) (fun b69 => ?_) (fun b69 => ?_)
            · refine tt_iinc X dX10_pin_74 rfl (by decide) ?_
              refine tt_goto X 44 dX10_pin_77 (by decide) ?_
              refine tt_loc [(0, _), (1, _), (2, _), (3, _)] ⟨rfl, rfl, rfl, rfl, trivial⟩ ?_
              refine ih (i + 1) ⟨by omega, by omega, fun j h1 h2 => ?_⟩ (by omega)
              rcases (show j < i ∨ j = i by omega) with q | q
              · exact hI.2.2 j h1 q
              · subst q; omega
            · refine tt_iconst X dX10_pin_72 ?_
              refine tt_iret X ⟨hr.1, hr.2.1⟩ (by decide) (by decide) dX10_pin_73 ?_
              exact ⟨rfl, Or.inr ⟨fun h => h.2 i (by omega) (by omega) (by omega), rfl, rfl⟩⟩
      · refine tt_iconst X dX10_pin_40 ?_
        refine tt_iret X ⟨hr.1, hr.2.1⟩ (by decide) (by decide) dX10_pin_41 ?_
        exact ⟨rfl, Or.inr ⟨fun h => absurd h.1 (by omega), rfl, rfl⟩⟩
set_option maxRecDepth 100000 in
set_option maxHeartbeats 4000000 in
theorem q_line (l : Launch) (g : ot_G) (ln : Nat) (ext : ot_L) (μ : ot_M) (h0 : μ 60 0 = 0) (a b : Int) (ha : -2147483648 ≤ a ∧ a ≤ 2147483647) (hb : -2147483648 ≤ b ∧ b ≤ 2147483647)(hN : 0 ≤ μ 60 2 ∧ μ 60 2 ≤ 24) (hM : 0 ≤ μ 60 11 ∧ μ 60 11 ≤ 20) (hQ : ∀ i, 0 ≤ i → i < μ 60 11 → (0 ≤ μ 69 i ∧ μ 69 i < 24) ∧ (0 ≤ μ 70 i ∧ μ 70 i < 24))  : ot_C l g yX10_line cX10_line 4 (some .int) 1 0 0 [.inr 60, .inl a, .inl b] (LL ln ext) μ (ot_pi (fun r L2 μ2 => L2 = LL ln ext ∧ ((((0 ≤ a ∧ a < μ 60 2 ∧ 0 ≤ b ∧ b < μ 60 2 ∧ a ≠ b ∧ μ 60 11 < 20) ∧ ∀ i, 0 ≤ i → i < μ 60 11 → ¬ (μ 69 i = a ∧ μ 70 i = b ∨ μ 69 i = b ∧ μ 70 i = a)) ∧ r = μ 60 11 ∧ μ2 = ot_up (ot_up (ot_up μ 69 (μ 60 11) a) 70 (μ 60 11) b) 60 11 (μ 60 11 + 1)) ∨ (¬ ((0 ≤ a ∧ a < μ 60 2 ∧ 0 ≤ b ∧ b < μ 60 2 ∧ a ≠ b ∧ μ 60 11 < 20) ∧ ∀ i, 0 ≤ i → i < μ 60 11 → ¬ (μ 69 i = a ∧ μ 70 i = b ∨ μ 69 i = b ∧ μ 70 i = a)) ∧ r = -1 ∧ μ2 = μ)))) := by
  refine ot_enter (by decide) (Nat.le_of_ble_eq_true rfl) ?_
  intro p e s m args below meth c X hr
  refine tt_aload_n X rfl dX10_line_0 ?_
  refine tt_iconst X dX10_line_1 ?_
  refine tt_puti X fX10_98 kc_10 (k_60 _ _) (by decide) (fun q hq => by cases hq; rfl) rfl dX10_line_2 ?_
  refine tt_mem (ot_nop h0) ?_
  refine tt_aload_n X rfl dX10_line_5 ?_
  refine tt_iload_n X rfl dX10_line_6 ?_
  refine tt_vi X rfl mX10_252 (q_isPin l g ln ext _ _ (by first | omega | (simp (disch := decide) only [ot_rd, ot_rs, ot_rf, ot_ucd, ot_ucs]; omega)) (by first | omega | (simp (disch := decide) only [ot_rd, ot_rs, ot_rf, ot_ucd, ot_ucs]; omega))) (k_60 _ _) ⟨_, rfl, rfl⟩ rfl rfl (Nat.le_of_ble_eq_true rfl) (by decide) (by decide) (by decide) dX10_line_7 (fun z7 L7 μ7 hp => ?_)
  obtain ⟨rfl, e7, hz7⟩ := hp
  replace e7 := e7.symm
  subst e7
  try simp (disch := decide) only [ot_rd, ot_rs, ot_rf, ot_ucd, ot_ucs] at hz7
  refine tt_if_eq X 35 (by first | omega | (simp (disch := decide) only [ot_rd, ot_rs, ot_rf, ot_ucd, ot_ucs]; omega)) dX10_line_10 (by decide) (fun b10 => ?_) (fun b10 => ?_)
  · refine tt_iconst X dX10_line_35 ?_
    refine tt_iret X ⟨hr.1, hr.2.1⟩ (by decide) (by decide) dX10_line_36 ?_
    exact ⟨rfl, Or.inr ⟨fun h => absurd h.1 (by omega), rfl, rfl⟩⟩
  · refine tt_aload_n X rfl dX10_line_13 ?_
    refine tt_iload_n X rfl dX10_line_14 ?_
    refine tt_vi X rfl mX10_252 (q_isPin l g ln ext _ _ (by first | omega | (simp (disch := decide) only [ot_rd, ot_rs, ot_rf, ot_ucd, ot_ucs]; omega)) (by first | omega | (simp (disch := decide) only [ot_rd, ot_rs, ot_rf, ot_ucd, ot_ucs]; omega))) (k_60 _ _) ⟨_, rfl, rfl⟩ rfl rfl (Nat.le_of_ble_eq_true rfl) (by decide) (by decide) (by decide) dX10_line_15 (fun z15 L15 μ15 hp => ?_)
    obtain ⟨rfl, e15, hz15⟩ := hp
    replace e15 := e15.symm
    subst e15
    try simp (disch := decide) only [ot_rd, ot_rs, ot_rf, ot_ucd, ot_ucs] at hz15
    refine tt_if_eq X 35 (by first | omega | (simp (disch := decide) only [ot_rd, ot_rs, ot_rf, ot_ucd, ot_ucs]; omega)) dX10_line_18 (by decide) (fun b18 => ?_) (fun b18 => ?_)
    · refine tt_iconst X dX10_line_35 ?_
      refine tt_iret X ⟨hr.1, hr.2.1⟩ (by decide) (by decide) dX10_line_36 ?_
      exact ⟨rfl, Or.inr ⟨fun h => absurd h.1 (by omega), rfl, rfl⟩⟩
    · refine tt_iload_n X rfl dX10_line_21 ?_
      refine tt_iload_n X rfl dX10_line_22 ?_
      refine tt_icmp_eq X 35 (by first | omega | (simp (disch := decide) only [ot_rd, ot_rs, ot_rf, ot_ucd, ot_ucs]; omega)) dX10_line_23 (by decide) (fun b23 => ?_) (fun b23 => ?_)
      · refine tt_iconst X dX10_line_35 ?_
        refine tt_iret X ⟨hr.1, hr.2.1⟩ (by decide) (by decide) dX10_line_36 ?_
        exact ⟨rfl, Or.inr ⟨fun h => absurd h.1 (by omega), rfl, rfl⟩⟩
      · refine tt_aload_n X rfl dX10_line_26 ?_
        refine tt_geti X fX10_108 (k_60 _ _) (by decide) (Or.inl rfl) dX10_line_27 ?_
        try simp (disch := decide) only [ot_rd, ot_rs, ot_rf, ot_ucd, ot_ucs]
        refine tt_bipush X (by decide) dX10_line_30 ?_
        refine tt_icmp_ne X 37 (by first | omega | (simp (disch := decide) only [ot_rd, ot_rs, ot_rf, ot_ucd, ot_ucs]; omega)) dX10_line_32 (by decide) (fun b32 => ?_) (fun b32 => ?_)
        · refine tt_iconst X dX10_line_37 ?_
          refine tt_istore_n X dX10_line_38 (by decide) ?_
          refine tt_loc [(0, _), (1, _), (2, _), (3, _)] ⟨rfl, rfl, rfl, rfl, trivial⟩ ?_
          refine tt_loop (α := Int) (fun i => (μ 60 11 - i).toNat) (fun i => 0 ≤ i ∧ i ≤ μ 60 11 ∧ ∀ j, 0 ≤ j → j < i → ¬ ((μ 69 j = a ∧ μ 70 j = b ∨ μ 69 j = b ∧ μ 70 j = a))) (fun i => μ) (fun i => [(0, .inr 60), (1, .inl a), (2, .inl b), (3, .inl i)]) 0 ⟨by omega, by omega, fun j h1 h2 => absurd h1 (by omega)⟩ ?_
          intro i hI ih
          try dsimp only at hI ih ⊢
          have hQi := hQ i (by omega)
          refine tt_iload_n X rfl dX10_line_39 ?_
          refine tt_aload_n X rfl dX10_line_40 ?_
          refine tt_geti X fX10_108 (k_60 _ _) (by decide) (Or.inl rfl) dX10_line_41 ?_
          try simp (disch := decide) only [ot_rd, ot_rs, ot_rf, ot_ucd, ot_ucs]
          refine tt_icmp_ge X 95 (by first | omega | (simp (disch := decide) only [ot_rd, ot_rs, ot_rf, ot_ucd, ot_ucs]; omega)) dX10_line_44 (by decide) (fun b44 => ?_) (fun b44 => ?_)
          · refine tt_aload_n X rfl dX10_line_95 ?_
            refine tt_getr X fX10_38 (k_60 _ _) (by decide) ⟨nofun, nofun⟩ rfl dX10_line_96 ?_
            refine tt_aload_n X rfl dX10_line_99 ?_
            refine tt_geti X fX10_108 (k_60 _ _) (by decide) (Or.inl rfl) dX10_line_100 ?_
            try simp (disch := decide) only [ot_rd, ot_rs, ot_rf, ot_ucd, ot_ucs]
            refine tt_iload_n X rfl dX10_line_103 ?_
            refine tt_iastore X (k_69 _ _) (by first | omega | (simp (disch := decide) only [ot_rd, ot_rs, ot_rf, ot_ucd, ot_ucs]; omega)) dX10_line_104 ?_
            refine tt_aload_n X rfl dX10_line_105 ?_
            refine tt_getr X fX10_41 (k_60 _ _) (by decide) ⟨nofun, nofun⟩ rfl dX10_line_106 ?_
            refine tt_aload_n X rfl dX10_line_109 ?_
            refine tt_geti X fX10_108 (k_60 _ _) (by decide) (Or.inl rfl) dX10_line_110 ?_
            try simp (disch := decide) only [ot_rd, ot_rs, ot_rf, ot_ucd, ot_ucs]
            refine tt_iload_n X rfl dX10_line_113 ?_
            refine tt_iastore X (k_70 _ _) (by first | omega | (simp (disch := decide) only [ot_rd, ot_rs, ot_rf, ot_ucd, ot_ucs]; omega)) dX10_line_114 ?_
            refine tt_aload_n X rfl dX10_line_115 ?_
            refine tt_aload_n X rfl dX10_line_116 ?_
            refine tt_geti X fX10_108 (k_60 _ _) (by decide) (Or.inl rfl) dX10_line_117 ?_
            try simp (disch := decide) only [ot_rd, ot_rs, ot_rf, ot_ucd, ot_ucs]
            refine tt_iconst X dX10_line_120 ?_
            refine tt_iadd X dX10_line_121 ?_
            refine tt_puti X fX10_108 kc_10 (k_60 _ _) (by decide) (fun q hq => by cases hq; rfl) rfl dX10_line_122 ?_
            refine tt_aload_n X rfl dX10_line_125 ?_
            refine tt_geti X fX10_108 (k_60 _ _) (by decide) (Or.inl rfl) dX10_line_126 ?_
            try simp (disch := decide) only [ot_rd, ot_rs, ot_rf, ot_ucd, ot_ucs]
            refine tt_iconst X dX10_line_129 ?_
            refine tt_isub X dX10_line_130 ?_
            refine tt_iret X ⟨hr.1, hr.2.1⟩ (by decide) (by decide) dX10_line_131 ?_
            refine ⟨rfl, Or.inl ⟨⟨by omega, fun j h1 h2 => hI.2.2 j h1 (by omega)⟩, ?_, rfl⟩⟩
            first | omega | (simp (disch := decide) only [ot_rd, ot_rs, ot_rf]; omega)
          · refine tt_aload_n X rfl dX10_line_47 ?_
            refine tt_getr X fX10_38 (k_60 _ _) (by decide) ⟨nofun, nofun⟩ rfl dX10_line_48 ?_
            refine tt_iload_n X rfl dX10_line_51 ?_
            refine tt_iaload X (k_69 _ _) (by first | omega | (simp (disch := decide) only [ot_rd, ot_rs, ot_rf, ot_ucd, ot_ucs]; omega)) dX10_line_52 ?_
            try simp (disch := decide) only [ot_rd, ot_rs, ot_rf, ot_ucd, ot_ucs]
            refine tt_iload_n X rfl dX10_line_53 ?_
            refine tt_icmp_ne X 67 (by first | omega | (simp (disch := decide) only [ot_rd, ot_rs, ot_rf, ot_ucd, ot_ucs]; omega)) dX10_line_54 (by decide) (fun b54 => ?_) (fun b54 => ?_)
            · refine tt_aload_n X rfl dX10_line_67 ?_
              refine tt_getr X fX10_38 (k_60 _ _) (by decide) ⟨nofun, nofun⟩ rfl dX10_line_68 ?_
              refine tt_iload_n X rfl dX10_line_71 ?_
              refine tt_iaload X (k_69 _ _) (by first | omega | (simp (disch := decide) only [ot_rd, ot_rs, ot_rf, ot_ucd, ot_ucs]; omega)) dX10_line_72 ?_
              try simp (disch := decide) only [ot_rd, ot_rs, ot_rf, ot_ucd, ot_ucs]
              refine tt_iload_n X rfl dX10_line_73 ?_
              refine tt_icmp_ne X 89 (by first | omega | (simp (disch := decide) only [ot_rd, ot_rs, ot_rf, ot_ucd, ot_ucs]; omega)) dX10_line_74 (by decide) (fun b74 => ?_) (fun b74 => ?_)
              · refine tt_iinc X dX10_line_89 rfl (by decide) ?_
                refine tt_goto X 39 dX10_line_92 (by decide) ?_
                refine tt_loc [(0, _), (1, _), (2, _), (3, _)] ⟨rfl, rfl, rfl, rfl, trivial⟩ ?_
                refine ih (i + 1) ⟨by omega, by omega, fun j h1 h2 => ?_⟩ (by omega)
                rcases (show j < i ∨ j = i by omega) with q | q
                · exact hI.2.2 j h1 q
                · subst q; omega
              · refine tt_aload_n X rfl dX10_line_77 ?_
                refine tt_getr X fX10_41 (k_60 _ _) (by decide) ⟨nofun, nofun⟩ rfl dX10_line_78 ?_
                refine tt_iload_n X rfl dX10_line_81 ?_
                refine tt_iaload X (k_70 _ _) (by first | omega | (simp (disch := decide) only [ot_rd, ot_rs, ot_rf, ot_ucd, ot_ucs]; omega)) dX10_line_82 ?_
                try simp (disch := decide) only [ot_rd, ot_rs, ot_rf, ot_ucd, ot_ucs]
                refine tt_iload_n X rfl dX10_line_83 ?_
                refine tt_icmp_ne X 89 (by first | omega | (simp (disch := decide) only [ot_rd, ot_rs, ot_rf, ot_ucd, ot_ucs]; omega)) dX10_line_84 (by decide) (fun b84 => ?_) (fun b84 => ?_)
                · refine tt_iinc X dX10_line_89 rfl (by decide) ?_
                  refine tt_goto X 39 dX10_line_92 (by decide) ?_
                  refine tt_loc [(0, _), (1, _), (2, _), (3, _)] ⟨rfl, rfl, rfl, rfl, trivial⟩ ?_
                  refine ih (i + 1) ⟨by omega, by omega, fun j h1 h2 => ?_⟩ (by omega)
                  rcases (show j < i ∨ j = i by omega) with q | q
                  · exact hI.2.2 j h1 q
                  · subst q; omega
                · refine tt_iconst X dX10_line_87 ?_
                  refine tt_iret X ⟨hr.1, hr.2.1⟩ (by decide) (by decide) dX10_line_88 ?_
                  exact ⟨rfl, Or.inr ⟨fun h => h.2 i (by omega) (by omega) (by omega), rfl, rfl⟩⟩
            · refine tt_aload_n X rfl dX10_line_57 ?_
              refine tt_getr X fX10_41 (k_60 _ _) (by decide) ⟨nofun, nofun⟩ rfl dX10_line_58 ?_
              refine tt_iload_n X rfl dX10_line_61 ?_
              refine tt_iaload X (k_70 _ _) (by first | omega | (simp (disch := decide) only [ot_rd, ot_rs, ot_rf, ot_ucd, ot_ucs]; omega)) dX10_line_62 ?_
              try simp (disch := decide) only [ot_rd, ot_rs, ot_rf, ot_ucd, ot_ucs]
              refine tt_iload_n X rfl dX10_line_63 ?_
              refine tt_icmp_eq X 87 (by first | omega | (simp (disch := decide) only [ot_rd, ot_rs, ot_rf, ot_ucd, ot_ucs]; omega)) dX10_line_64 (by decide) (fun b64 => ?_) (fun b64 => ?_)
              · refine tt_iconst X dX10_line_87 ?_
                refine tt_iret X ⟨hr.1, hr.2.1⟩ (by decide) (by decide) dX10_line_88 ?_
                exact ⟨rfl, Or.inr ⟨fun h => h.2 i (by omega) (by omega) (by omega), rfl, rfl⟩⟩
              · refine tt_aload_n X rfl dX10_line_67 ?_
                refine tt_getr X fX10_38 (k_60 _ _) (by decide) ⟨nofun, nofun⟩ rfl dX10_line_68 ?_
                refine tt_iload_n X rfl dX10_line_71 ?_
                refine tt_iaload X (k_69 _ _) (by first | omega | (simp (disch := decide) only [ot_rd, ot_rs, ot_rf, ot_ucd, ot_ucs]; omega)) dX10_line_72 ?_
                try simp (disch := decide) only [ot_rd, ot_rs, ot_rf, ot_ucd, ot_ucs]
                refine tt_iload_n X rfl dX10_line_73 ?_
                refine tt_icmp_ne X 89 (by first | omega | (simp (disch := decide) only [ot_rd, ot_rs, ot_rf, ot_ucd, ot_ucs]; omega)) dX10_line_74 (by decide) (fun b74 => ?_) (fun b74 => ?_)
                · refine tt_iinc X dX10_line_89 rfl (by decide) ?_
                  refine tt_goto X 39 dX10_line_92 (by decide) ?_
                  refine tt_loc [(0, _), (1, _), (2, _), (3, _)] ⟨rfl, rfl, rfl, rfl, trivial⟩ ?_
                  refine ih (i + 1) ⟨by omega, by omega, fun j h1 h2 => ?_⟩ (by omega)
                  rcases (show j < i ∨ j = i by omega) with q | q
                  · exact hI.2.2 j h1 q
                  · subst q; omega
                · refine tt_aload_n X rfl dX10_line_77 ?_
                  refine tt_getr X fX10_41 (k_60 _ _) (by decide) ⟨nofun, nofun⟩ rfl dX10_line_78 ?_
                  refine tt_iload_n X rfl dX10_line_81 ?_
                  refine tt_iaload X (k_70 _ _) (by first | omega | (simp (disch := decide) only [ot_rd, ot_rs, ot_rf, ot_ucd, ot_ucs]; omega)) dX10_line_82 ?_
                  try simp (disch := decide) only [ot_rd, ot_rs, ot_rf, ot_ucd, ot_ucs]
                  refine tt_iload_n X rfl dX10_line_83 ?_
                  refine tt_icmp_ne X 89 (by first | omega | (simp (disch := decide) only [ot_rd, ot_rs, ot_rf, ot_ucd, ot_ucs]; omega)) dX10_line_84 (by decide) (fun b84 => ?_) (fun b84 => ?_)
                  · refine tt_iinc X dX10_line_89 rfl (by decide) ?_
                    refine tt_goto X 39 dX10_line_92 (by decide) ?_
                    refine tt_loc [(0, _), (1, _), (2, _), (3, _)] ⟨rfl, rfl, rfl, rfl, trivial⟩ ?_
                    refine ih (i + 1) ⟨by omega, by omega, fun j h1 h2 => ?_⟩ (by omega)
                    rcases (show j < i ∨ j = i by omega) with q | q
                    · exact hI.2.2 j h1 q
                    · subst q; omega
                  · refine tt_iconst X dX10_line_87 ?_
                    refine tt_iret X ⟨hr.1, hr.2.1⟩ (by decide) (by decide) dX10_line_88 ?_
                    exact ⟨rfl, Or.inr ⟨fun h => h.2 i (by omega) (by omega) (by omega), rfl, rfl⟩⟩
        · refine tt_iconst X dX10_line_35 ?_
          refine tt_iret X ⟨hr.1, hr.2.1⟩ (by decide) (by decide) dX10_line_36 ?_
          exact ⟨rfl, Or.inr ⟨fun h => absurd h.1 (by omega), rfl, rfl⟩⟩
set_option maxRecDepth 100000 in
set_option maxHeartbeats 4000000 in
theorem q_types (l : Launch) (g : ot_G) (ln : Nat) (ext : ot_L) (μ : ot_M) (v : Int) (hv : -2147483648 ≤ v ∧ v ≤ 2147483647)(hT : 0 ≤ μ 60 17 ∧ μ 60 17 + 4 ≤ 400) : ot_C l g yX10_types cX10_types 3 none 0 0 0 [.inr 60, .inl v] (LL ln ext) μ (ot_pv (fun L2 μ2 => L2 = LL ln ext ∧ μ2 = ot_up (ot_uc μ 72 (fun i => if μ 60 17 ≤ i ∧ i < μ 60 17 + 4 then (v / 2 ^ (24 - 8 * (i - μ 60 17).toNat)) % 256 else μ 72 i)) 60 17 (μ 60 17 + 4))) := by
  refine ot_enter (by decide) (Nat.le_of_ble_eq_true rfl) ?_
  intro p e s m args below meth c X hr
  refine tt_bipush X (by decide) dX10_types_0 ?_
  refine tt_istore_n X dX10_types_2 (by decide) ?_
  refine tt_mem (μ' := ot_up (ot_uc μ 72 (fun i => if μ 60 17 ≤ i ∧ i < μ 60 17 + ((0 : Nat) : Int) then (v / 2 ^ (24 - 8 * (i - μ 60 17).toNat)) % 256 else μ 72 i)) 60 17 (μ 60 17 + ((0 : Nat) : Int))) (by funext k i; simp only [ot_up, ot_uc]; by_cases h1 : k = 60 <;> by_cases h2 : k = 72 <;> simp_all <;> intros <;> omega) ?_
  refine tt_loc [(0, _), (1, _), (2, _)] ⟨rfl, rfl, rfl, trivial⟩ ?_
  refine tt_loop (α := Nat) (fun j => 4 - j) (fun j => j ≤ 4) (fun j => ot_up (ot_uc μ 72 (fun i => if μ 60 17 ≤ i ∧ i < μ 60 17 + j then (v / 2 ^ (24 - 8 * (i - μ 60 17).toNat)) % 256 else μ 72 i)) 60 17 (μ 60 17 + j)) (fun j => [(0, .inr 60), (1, .inl v), (2, .inl (24 - 8 * (j : Int)))]) 0 (by omega) ?_
  intro j hI ih
  try dsimp only at hI ih ⊢
  have e0 : (ot_up (ot_uc μ 72 (fun i => if μ 60 17 ≤ i ∧ i < μ 60 17 + (j : Int) then (v / 2 ^ (24 - 8 * (i - μ 60 17).toNat)) % 256 else μ 72 i)) 60 17 (μ 60 17 + (j : Int))) 60 17 = μ 60 17 + (j : Int) := ot_rs
  refine tt_iload_n X rfl dX10_types_3 ?_
  refine tt_if_lt X 39 (by first | omega | (simp (disch := decide) only [ot_rd, ot_rs, ot_rf, ot_ucd, ot_ucs]; omega)) dX10_types_4 (by decide) (fun b4 => ?_) (fun b4 => ?_)
  · refine tt_vret X ⟨hr.1, hr.2.1⟩ (by decide) (by decide) dX10_types_39 ?_
    refine ⟨rfl, ?_⟩
    rw [show ((4 : Int)) = (j : Int) by omega]
  · refine tt_aload_n X rfl dX10_types_7 ?_
    refine tt_getr X fX10_47 (k_60 _ _) (by decide) ⟨nofun, nofun⟩ rfl dX10_types_8 ?_
    refine tt_aload_n X rfl dX10_types_11 ?_
    refine tt_geti X fX10_128 (k_60 _ _) (by decide) (Or.inl rfl) dX10_types_12 ?_
    try simp (disch := decide) only [ot_rd, ot_rs, ot_rf, ot_ucd, ot_ucs]
    refine tt_iload_n X rfl dX10_types_15 ?_
    refine tt_iload_n X rfl dX10_types_16 ?_
    refine tt_ishr X dX10_types_17 ?_
    refine tt_sipush X (by decide) dX10_types_18 ?_
    refine tt_iand X dX10_types_21 ?_
    refine tt_iastore X (k_72 _ _) (by first | omega | (simp (disch := decide) only [ot_rd, ot_rs, ot_rf, ot_ucd, ot_ucs]; omega)) dX10_types_22 ?_
    refine tt_aload_n X rfl dX10_types_23 ?_
    refine tt_aload_n X rfl dX10_types_24 ?_
    refine tt_geti X fX10_128 (k_60 _ _) (by decide) (Or.inl rfl) dX10_types_25 ?_
    try simp (disch := decide) only [ot_rd, ot_rs, ot_rf, ot_ucd, ot_ucs]
    refine tt_iconst X dX10_types_28 ?_
    refine tt_iadd X dX10_types_29 ?_
    refine tt_puti X fX10_128 kc_10 (k_60 _ _) (by decide) (fun q hq => by cases hq; rfl) rfl dX10_types_30 ?_
    refine tt_iinc X dX10_types_33 rfl (by decide) ?_
    refine tt_goto X 3 dX10_types_36 (by decide) ?_
    refine tt_loc [(0, _), (1, _), (2, _)] ⟨rfl, rfl, rfl, trivial⟩ ?_
    refine tt_mem (μ' := ot_up (ot_uc μ 72 (fun i => if μ 60 17 ≤ i ∧ i < μ 60 17 + ((j + 1 : Nat) : Int) then (v / 2 ^ (24 - 8 * (i - μ 60 17).toNat)) % 256 else μ 72 i)) 60 17 (μ 60 17 + ((j + 1 : Nat) : Int))) ?_ ?_
    · funext k i
      have e := bb_byte_shr v (24 - 8 * j) (by omega) hv
      rw [show ((24 - 8 * j : Nat) : Int) = 24 - 8 * (j : Int) by omega] at e
      simp only [ot_up, ot_uc, e]
      by_cases h1 : k = 60
      · subst h1; simp; intros; omega
      · by_cases h2 : k = 72
        · subst h2
          simp only [if_neg h1, if_true, reduceIte]
          split
          · subst_vars; rw [if_pos (by omega)]; rw [show 24 - 8 * (μ 60 17 + (j : Int) - μ 60 17).toNat = 24 - 8 * j by omega]
          · split <;> split <;> first | rfl | omega
        · simp [h1, h2]
    have h := ih (j + 1) (by omega) (by omega)
    rw [show (24 - 8 * ((j + 1 : Nat) : Int)) = 24 - 8 * (j : Int) + -8 by omega] at h
    exact h

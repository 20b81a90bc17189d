set_option maxRecDepth 100000 in
set_option maxHeartbeats 4000000 in
theorem c_hasPinAt (l : Launch) (g : ot_G) (ln : Nat) (ext : ot_L) (μ : ot_M) (x y : Int) (hx : -2147483648 ≤ x ∧ x ≤ 2147483647) (hy : -2147483648 ≤ y ∧ y ≤ 2147483647)(hN : 0 ≤ μ 1 12 ∧ μ 1 12 ≤ 24) (hP : ∀ i, 0 ≤ i → i < μ 1 12 → (0 ≤ μ 2 i ∧ μ 2 i ≤ 8) ∧ (0 ≤ μ 3 i ∧ μ 3 i ≤ 8)) : ot_C l g yX8_hasPinAt cX8_hasPinAt 4 (some .boolean) 0 0 0 [.inr 1, .inl x, .inl y] (LL ln ext) μ (ot_pi (fun r L2 μ2 => L2 = LL ln ext ∧ μ2 = μ ∧ (r = 0 ∨ r = 1) ∧ ot_im r 1 (∃ i, 0 ≤ i ∧ i < μ 1 12 ∧ μ 2 i = x ∧ μ 3 i = y) ∧ ot_im r 0 (∀ i, 0 ≤ i → i < μ 1 12 → ¬ (μ 2 i = x ∧ μ 3 i = y)))) := by
  refine ot_enter (by decide) (Nat.le_of_ble_eq_true rfl) ?_
  intro p e s m args below meth c X hr
  refine tt_iconst X dX8_hasPinAt_0 ?_
  refine tt_istore_n X dX8_hasPinAt_1 (by decide) ?_
  refine tt_loc [(0, _), (1, _), (2, _), (3, _)] ⟨rfl, rfl, rfl, rfl, trivial⟩ ?_
  refine tt_loop (α := Int) (fun i => (μ 1 12 - i).toNat) (fun i => 0 ≤ i ∧ i ≤ μ 1 12 ∧ ∀ j, 0 ≤ j → j < i → ¬ (μ 2 j = x ∧ μ 3 j = y)) (fun i => μ) (fun i => [(0, .inr 1), (1, .inl x), (2, .inl y), (3, .inl i)]) 0 ⟨by omega, by omega, fun j h1 h2 => absurd h1 (by omega)⟩ ?_
  intro i hI ih
  try dsimp only at hI ih ⊢
  have hPi := hP i (by omega)
  refine tt_iload_n X rfl dX8_hasPinAt_2 ?_
  refine tt_aload_n X rfl dX8_hasPinAt_3 ?_
  refine tt_geti X fX8_57 (k_1 _ _) (by decide) (Or.inl rfl) dX8_hasPinAt_4 ?_
  try simp (disch := decide) only [ot_rd, ot_rs, ot_rf, ot_ucd, ot_ucs]
  refine tt_icmp_ge X 38 (by first | omega | (simp (disch := decide) only [ot_rd, ot_rs, ot_rf, ot_ucd, ot_ucs]; omega)) dX8_hasPinAt_7 (by decide) (fun b7 => ?_) (fun b7 => ?_)
  · refine tt_iconst X dX8_hasPinAt_38 ?_
    refine tt_zret X ⟨hr.1, hr.2.1⟩ (by omega) (by decide) (by decide) dX8_hasPinAt_39 ?_
    refine ⟨rfl, rfl, by omega, fun q => ?_, fun q => ?_⟩
    · first | omega | exact ⟨i, by omega, by omega, by omega⟩
    · first | omega | exact fun j h1 h2 => hI.2.2 j h1 (by omega)
  · refine tt_aload_n X rfl dX8_hasPinAt_10 ?_
    refine tt_getr X fX8_9 (k_1 _ _) (by decide) ⟨nofun, nofun⟩ rfl dX8_hasPinAt_11 ?_
    refine tt_iload_n X rfl dX8_hasPinAt_14 ?_
    refine tt_iaload X (k_2 _ _) (by first | omega | (simp (disch := decide) only [ot_rd, ot_rs, ot_rf, ot_ucd, ot_ucs]; omega)) dX8_hasPinAt_15 ?_
    try simp (disch := decide) only [ot_rd, ot_rs, ot_rf, ot_ucd, ot_ucs]
    refine tt_iload_n X rfl dX8_hasPinAt_16 ?_
    refine tt_icmp_ne X 32 (by first | omega | (simp (disch := decide) only [ot_rd, ot_rs, ot_rf, ot_ucd, ot_ucs]; omega)) dX8_hasPinAt_17 (by decide) (fun b17 => ?_) (fun b17 => ?_)
    · refine tt_iinc X dX8_hasPinAt_32 rfl (by decide) ?_
      refine tt_goto X 2 dX8_hasPinAt_35 (by decide) ?_
      refine tt_loc [(0, _), (1, _), (2, _), (3, _)] ⟨rfl, rfl, rfl, rfl, trivial⟩ ?_
      refine ih (i + 1) ⟨by omega, by omega, fun j h1 h2 => ?_⟩ (by omega)
      rcases (show j < i ∨ j = i by omega) with q | q
      · exact hI.2.2 j h1 q
      · subst q; omega
    · refine tt_aload_n X rfl dX8_hasPinAt_20 ?_
      refine tt_getr X fX8_15 (k_1 _ _) (by decide) ⟨nofun, nofun⟩ rfl dX8_hasPinAt_21 ?_
      refine tt_iload_n X rfl dX8_hasPinAt_24 ?_
      refine tt_iaload X (k_3 _ _) (by first | omega | (simp (disch := decide) only [ot_rd, ot_rs, ot_rf, ot_ucd, ot_ucs]; omega)) dX8_hasPinAt_25 ?_
      try simp (disch := decide) only [ot_rd, ot_rs, ot_rf, ot_ucd, ot_ucs]
      refine tt_iload_n X rfl dX8_hasPinAt_26 ?_
      refine tt_icmp_ne X 32 (by first | omega | (simp (disch := decide) only [ot_rd, ot_rs, ot_rf, ot_ucd, ot_ucs]; omega)) dX8_hasPinAt_27 (by decide) (fun b27 => ?_) (fun b27 => ?_)
      · refine tt_iinc X dX8_hasPinAt_32 rfl (by decide) ?_
        refine tt_goto X 2 dX8_hasPinAt_35 (by decide) ?_
        refine tt_loc [(0, _), (1, _), (2, _), (3, _)] ⟨rfl, rfl, rfl, rfl, trivial⟩ ?_
        refine ih (i + 1) ⟨by omega, by omega, fun j h1 h2 => ?_⟩ (by omega)
        rcases (show j < i ∨ j = i by omega) with q | q
        · exact hI.2.2 j h1 q
        · subst q; omega
      · refine tt_iconst X dX8_hasPinAt_30 ?_
        refine tt_zret X ⟨hr.1, hr.2.1⟩ (by omega) (by decide) (by decide) dX8_hasPinAt_31 ?_
        refine ⟨rfl, rfl, by omega, fun q => ?_, fun q => ?_⟩
        · first | omega | exact ⟨i, by omega, by omega, by omega⟩
        · first | omega | exact fun j h1 h2 => hI.2.2 j h1 (by omega)
set_option maxRecDepth 100000 in
set_option maxHeartbeats 4000000 in
theorem c_hasInSet (l : Launch) (g : ot_G) (ln : Nat) (ext : ot_L) (μ : ot_M) (a b : Int) (ha : -2147483648 ≤ a ∧ a ≤ 2147483647) (hb : -2147483648 ≤ b ∧ b ≤ 2147483647) (hN : 0 ≤ μ 1 13 ∧ μ 1 13 ≤ 20) (hP : ∀ i, 0 ≤ i → i < μ 1 13 → (0 ≤ μ 9 i ∧ μ 9 i < 24) ∧ (0 ≤ μ 10 i ∧ μ 10 i < 24)) : ot_C l g yX8_hasInSet cX8_hasInSet 4 (some .boolean) 0 0 0 [.inr 1, .inl a, .inl b] (LL ln ext) μ (ot_pi (fun r L2 μ2 => L2 = LL ln ext ∧ μ2 = μ ∧ (r = 0 ∨ r = 1) ∧ ot_im r 1 (∃ i, 0 ≤ i ∧ i < μ 1 13 ∧ (μ 9 i = a ∧ μ 10 i = b ∨ μ 9 i = b ∧ μ 10 i = a)) ∧ ot_im r 0 (∀ i, 0 ≤ i → i < μ 1 13 → ¬ ((μ 9 i = a ∧ μ 10 i = b ∨ μ 9 i = b ∧ μ 10 i = a))))) := by
  refine ot_enter (by decide) (Nat.le_of_ble_eq_true rfl) ?_
  intro p e s m args below meth c X hr
  refine tt_iconst X dX8_hasInSet_0 ?_
  refine tt_istore_n X dX8_hasInSet_1 (by decide) ?_
  refine tt_loc [(0, _), (1, _), (2, _), (3, _)] ⟨rfl, rfl, rfl, rfl, trivial⟩ ?_
  refine tt_loop (α := Int) (fun i => (μ 1 13 - i).toNat) (fun i => 0 ≤ i ∧ i ≤ μ 1 13 ∧ ∀ j, 0 ≤ j → j < i → ¬ ((μ 9 j = a ∧ μ 10 j = b ∨ μ 9 j = b ∧ μ 10 j = a))) (fun i => μ) (fun i => [(0, .inr 1), (1, .inl a), (2, .inl b), (3, .inl i)]) 0 ⟨by omega, by omega, fun j h1 h2 => absurd h1 (by omega)⟩ ?_
  intro i hI ih
  try dsimp only at hI ih ⊢
  have hPi := hP i (by omega)
  refine tt_iload_n X rfl dX8_hasInSet_2 ?_
  refine tt_aload_n X rfl dX8_hasInSet_3 ?_
  refine tt_geti X fX8_60 (k_1 _ _) (by decide) (Or.inl rfl) dX8_hasInSet_4 ?_
  try simp (disch := decide) only [ot_rd, ot_rs, ot_rf, ot_ucd, ot_ucs]
  refine tt_icmp_ge X 58 (by first | omega | (simp (disch := decide) only [ot_rd, ot_rs, ot_rf, ot_ucd, ot_ucs]; omega)) dX8_hasInSet_7 (by decide) (fun b7 => ?_) (fun b7 => ?_)
  · refine tt_iconst X dX8_hasInSet_58 ?_
    refine tt_zret X ⟨hr.1, hr.2.1⟩ (by omega) (by decide) (by decide) dX8_hasInSet_59 ?_
    refine ⟨rfl, rfl, by omega, fun q => ?_, fun q => ?_⟩
    · first | omega | exact ⟨i, by omega, by omega, by omega⟩
    · first | omega | exact fun j h1 h2 => hI.2.2 j h1 (by omega)
  · refine tt_aload_n X rfl dX8_hasInSet_10 ?_
    refine tt_getr X fX8_33 (k_1 _ _) (by decide) ⟨nofun, nofun⟩ rfl dX8_hasInSet_11 ?_
    refine tt_iload_n X rfl dX8_hasInSet_14 ?_
    refine tt_iaload X (k_9 _ _) (by first | omega | (simp (disch := decide) only [ot_rd, ot_rs, ot_rf, ot_ucd, ot_ucs]; omega)) dX8_hasInSet_15 ?_
    try simp (disch := decide) only [ot_rd, ot_rs, ot_rf, ot_ucd, ot_ucs]
    refine tt_iload_n X rfl dX8_hasInSet_16 ?_
    refine tt_icmp_ne X 30 (by first | omega | (simp (disch := decide) only [ot_rd, ot_rs, ot_rf, ot_ucd, ot_ucs]; omega)) dX8_hasInSet_17 (by decide) (fun b17 => ?_) (fun b17 => ?_)
    · refine tt_aload_n X rfl dX8_hasInSet_30 ?_
      refine tt_getr X fX8_33 (k_1 _ _) (by decide) ⟨nofun, nofun⟩ rfl dX8_hasInSet_31 ?_
      refine tt_iload_n X rfl dX8_hasInSet_34 ?_
      refine tt_iaload X (k_9 _ _) (by first | omega | (simp (disch := decide) only [ot_rd, ot_rs, ot_rf, ot_ucd, ot_ucs]; omega)) dX8_hasInSet_35 ?_
      try simp (disch := decide) only [ot_rd, ot_rs, ot_rf, ot_ucd, ot_ucs]
      refine tt_iload_n X rfl dX8_hasInSet_36 ?_
      refine tt_icmp_ne X 52 (by first | omega | (simp (disch := decide) only [ot_rd, ot_rs, ot_rf, ot_ucd, ot_ucs]; omega)) dX8_hasInSet_37 (by decide) (fun b37 => ?_) (fun b37 => ?_)
      · refine tt_iinc X dX8_hasInSet_52 rfl (by decide) ?_
        refine tt_goto X 2 dX8_hasInSet_55 (by decide) ?_
        refine tt_loc [(0, _), (1, _), (2, _), (3, _)] ⟨rfl, rfl, rfl, rfl, trivial⟩ ?_
        refine ih (i + 1) ⟨by omega, by omega, fun j h1 h2 => ?_⟩ (by omega)
        rcases (show j < i ∨ j = i by omega) with q | q
        · exact hI.2.2 j h1 q
        · subst q; omega
      · refine tt_aload_n X rfl dX8_hasInSet_40 ?_
        refine tt_getr X fX8_36 (k_1 _ _) (by decide) ⟨nofun, nofun⟩ rfl dX8_hasInSet_41 ?_
        refine tt_iload_n X rfl dX8_hasInSet_44 ?_
        refine tt_iaload X (k_10 _ _) (by first | omega | (simp (disch := decide) only [ot_rd, ot_rs, ot_rf, ot_ucd, ot_ucs]; omega)) dX8_hasInSet_45 ?_
        try simp (disch := decide) only [ot_rd, ot_rs, ot_rf, ot_ucd, ot_ucs]
        refine tt_iload_n X rfl dX8_hasInSet_46 ?_
        refine tt_icmp_ne X 52 (by first | omega | (simp (disch := decide) only [ot_rd, ot_rs, ot_rf, ot_ucd, ot_ucs]; omega)) dX8_hasInSet_47 (by decide) (fun b47 => ?_) (fun b47 => ?_)
        · refine tt_iinc X dX8_hasInSet_52 rfl (by decide) ?_
          refine tt_goto X 2 dX8_hasInSet_55 (by decide) ?_
          refine tt_loc [(0, _), (1, _), (2, _), (3, _)] ⟨rfl, rfl, rfl, rfl, trivial⟩ ?_
          refine ih (i + 1) ⟨by omega, by omega, fun j h1 h2 => ?_⟩ (by omega)
          rcases (show j < i ∨ j = i by omega) with q | q
          · exact hI.2.2 j h1 q
          · subst q; omega
        · refine tt_iconst X dX8_hasInSet_50 ?_
          refine tt_zret X ⟨hr.1, hr.2.1⟩ (by omega) (by decide) (by decide) dX8_hasInSet_51 ?_
          refine ⟨rfl, rfl, by omega, fun q => ?_, fun q => ?_⟩
          · first | omega | exact ⟨i, by omega, by omega, by omega⟩
          · first | omega | exact fun j h1 h2 => hI.2.2 j h1 (by omega)
    · refine tt_aload_n X rfl dX8_hasInSet_20 ?_
      refine tt_getr X fX8_36 (k_1 _ _) (by decide) ⟨nofun, nofun⟩ rfl dX8_hasInSet_21 ?_
      refine tt_iload_n X rfl dX8_hasInSet_24 ?_
      refine tt_iaload X (k_10 _ _) (by first | omega | (simp (disch := decide) only [ot_rd, ot_rs, ot_rf, ot_ucd, ot_ucs]; omega)) dX8_hasInSet_25 ?_
      try simp (disch := decide) only [ot_rd, ot_rs, ot_rf, ot_ucd, ot_ucs]
      refine tt_iload_n X rfl dX8_hasInSet_26 ?_
      refine tt_icmp_eq X 50 (by first | omega | (simp (disch := decide) only [ot_rd, ot_rs, ot_rf, ot_ucd, ot_ucs]; omega)) dX8_hasInSet_27 (by decide) (fun b27 => ?_) (fun b27 => ?_)
      · refine tt_iconst X dX8_hasInSet_50 ?_
        refine tt_zret X ⟨hr.1, hr.2.1⟩ (by omega) (by decide) (by decide) dX8_hasInSet_51 ?_
        refine ⟨rfl, rfl, by omega, fun q => ?_, fun q => ?_⟩
        · first | omega | exact ⟨i, by omega, by omega, by omega⟩
        · first | omega | exact fun j h1 h2 => hI.2.2 j h1 (by omega)
      · refine tt_aload_n X rfl dX8_hasInSet_30 ?_
        refine tt_getr X fX8_33 (k_1 _ _) (by decide) ⟨nofun, nofun⟩ rfl dX8_hasInSet_31 ?_
        refine tt_iload_n X rfl dX8_hasInSet_34 ?_
        refine tt_iaload X (k_9 _ _) (by first | omega | (simp (disch := decide) only [ot_rd, ot_rs, ot_rf, ot_ucd, ot_ucs]; omega)) dX8_hasInSet_35 ?_
        try simp (disch := decide) only [ot_rd, ot_rs, ot_rf, ot_ucd, ot_ucs]
        refine tt_iload_n X rfl dX8_hasInSet_36 ?_
        refine tt_icmp_ne X 52 (by first | omega | (simp (disch := decide) only [ot_rd, ot_rs, ot_rf, ot_ucd, ot_ucs]; omega)) dX8_hasInSet_37 (by decide) (fun b37 => ?_) (fun b37 => ?_)
        · refine tt_iinc X dX8_hasInSet_52 rfl (by decide) ?_
          refine tt_goto X 2 dX8_hasInSet_55 (by decide) ?_
          refine tt_loc [(0, _), (1, _), (2, _), (3, _)] ⟨rfl, rfl, rfl, rfl, trivial⟩ ?_
          refine ih (i + 1) ⟨by omega, by omega, fun j h1 h2 => ?_⟩ (by omega)
          rcases (show j < i ∨ j = i by omega) with q | q
          · exact hI.2.2 j h1 q
          · subst q; omega
        · refine tt_aload_n X rfl dX8_hasInSet_40 ?_
          refine tt_getr X fX8_36 (k_1 _ _) (by decide) ⟨nofun, nofun⟩ rfl dX8_hasInSet_41 ?_
          refine tt_iload_n X rfl dX8_hasInSet_44 ?_
          refine tt_iaload X (k_10 _ _) (by first | omega | (simp (disch := decide) only [ot_rd, ot_rs, ot_rf, ot_ucd, ot_ucs]; omega)) dX8_hasInSet_45 ?_
          try simp (disch := decide) only [ot_rd, ot_rs, ot_rf, ot_ucd, ot_ucs]
          refine tt_iload_n X rfl dX8_hasInSet_46 ?_
          refine tt_icmp_ne X 52 (by first | omega | (simp (disch := decide) only [ot_rd, ot_rs, ot_rf, ot_ucd, ot_ucs]; omega)) dX8_hasInSet_47 (by decide) (fun b47 => ?_) (fun b47 => ?_)
          · refine tt_iinc X dX8_hasInSet_52 rfl (by decide) ?_
            refine tt_goto X 2 dX8_hasInSet_55 (by decide) ?_
            refine tt_loc [(0, _), (1, _), (2, _), (3, _)] ⟨rfl, rfl, rfl, rfl, trivial⟩ ?_
            refine ih (i + 1) ⟨by omega, by omega, fun j h1 h2 => ?_⟩ (by omega)
            rcases (show j < i ∨ j = i by omega) with q | q
            · exact hI.2.2 j h1 q
            · subst q; omega
          · refine tt_iconst X dX8_hasInSet_50 ?_
            refine tt_zret X ⟨hr.1, hr.2.1⟩ (by omega) (by decide) (by decide) dX8_hasInSet_51 ?_
            refine ⟨rfl, rfl, by omega, fun q => ?_, fun q => ?_⟩
            · first | omega | exact ⟨i, by omega, by omega, by omega⟩
            · first | omega | exact fun j h1 h2 => hI.2.2 j h1 (by omega)
set_option maxRecDepth 100000 in
set_option maxHeartbeats 4000000 in
theorem c_pin (l : Launch) (g : ot_G) (ln : Nat) (ext : ot_L) (μ : ot_M) (x y : Int) (hx : -2147483648 ≤ x ∧ x ≤ 2147483647) (hy : -2147483648 ≤ y ∧ y ≤ 2147483647)(hS : 2 ≤ μ 1 11 ∧ μ 1 11 ≤ 8)(hN : 0 ≤ μ 1 12 ∧ μ 1 12 ≤ 24)(hP : ∀ i, 0 ≤ i → i < μ 1 12 → (0 ≤ μ 2 i ∧ μ 2 i ≤ 8) ∧ (0 ≤ μ 3 i ∧ μ 3 i ≤ 8)) : ot_C l g yX9_pin cX9_pin 4 (some .int) 1 0 0 [.inr 0, .inl x, .inl y] (LL ln ext) μ (ot_pi (fun r L2 μ2 => L2 = LL ln ext ∧ ((((0 ≤ x ∧ x ≤ μ 1 11 ∧ 0 ≤ y ∧ y ≤ μ 1 11 ∧ μ 1 12 < 24) ∧ ∀ i, 0 ≤ i → i < μ 1 12 → ¬ (μ 2 i = x ∧ μ 3 i = y)) ∧ r = μ 1 12 ∧ μ2 = ot_up (ot_up (ot_up (ot_up μ 2 (μ 1 12) x) 3 (μ 1 12) y) 1 12 (μ 1 12 + 1)) 0 14 0) ∨ (¬ ((0 ≤ x ∧ x ≤ μ 1 11 ∧ 0 ≤ y ∧ y ≤ μ 1 11 ∧ μ 1 12 < 24) ∧ ∀ i, 0 ≤ i → i < μ 1 12 → ¬ (μ 2 i = x ∧ μ 3 i = y)) ∧ r = -1 ∧ μ2 = μ)))) := by
  refine ot_enter (by decide) (Nat.le_of_ble_eq_true rfl) ?_
  intro p e s m args below meth c X hr
  refine tt_aload_n X rfl dX9_pin_0 ?_
  refine tt_getr X fX9_12 (k_0 _ _) (by decide) ⟨nofun, nofun⟩ rfl dX9_pin_1 ?_
  refine tt_iload_n X rfl dX9_pin_4 ?_
  refine tt_iload_n X rfl dX9_pin_5 ?_
  refine tt_vi X rfl mX9_92 (c_isPoint l g ln ext _ _ _ (by first | omega | (simp (disch := decide) only [ot_rd, ot_rs, ot_rf, ot_ucd, ot_ucs]; omega)) (by first | omega | (simp (disch := decide) only [ot_rd, ot_rs, ot_rf, ot_ucd, ot_ucs]; omega)) (by first | omega | (simp (disch := decide) only [ot_rd, ot_rs, ot_rf, ot_ucd, ot_ucs]; omega))) (k_1 _ _) ⟨_, rfl, rfl⟩ rfl rfl (Nat.le_of_ble_eq_true rfl) (by decide) (by decide) (by decide) dX9_pin_6 (fun z6 L6 μ6 hp => ?_)
  obtain ⟨rfl, e6, hz6⟩ := hp
  replace e6 := e6.symm
  subst e6
  try simp (disch := decide) only [ot_rd, ot_rs, ot_rf, ot_ucd, ot_ucs] at hz6
  refine tt_if_eq X 36 (by first | omega | (simp (disch := decide) only [ot_rd, ot_rs, ot_rf, ot_ucd, ot_ucs]; omega)) dX9_pin_9 (by decide) (fun b9 => ?_) (fun b9 => ?_)
  · refine tt_iconst X dX9_pin_36 ?_
    refine tt_iret X ⟨hr.1, hr.2.1⟩ (by decide) (by decide) dX9_pin_37 ?_
    refine ⟨rfl, Or.inr ⟨?_, rfl, rfl⟩⟩
    first | exact fun h => absurd h.1 (by omega) | exact fun h => by obtain ⟨i, h1, h2, h3⟩ := hz18a (by omega); exact h.2 i h1 h2 h3
  · refine tt_aload_n X rfl dX9_pin_12 ?_
    refine tt_getr X fX9_12 (k_0 _ _) (by decide) ⟨nofun, nofun⟩ rfl dX9_pin_13 ?_
    refine tt_iload_n X rfl dX9_pin_16 ?_
    refine tt_iload_n X rfl dX9_pin_17 ?_
    refine tt_vi X rfl mX9_96 (c_hasPinAt l g ln ext _ _ _ (by omega) (by omega) (by omega) hP) (k_1 _ _) ⟨_, rfl, rfl⟩ rfl rfl (Nat.le_of_ble_eq_true rfl) (by decide) (by decide) (by decide) dX9_pin_18 (fun z18 L18 μ18 hp => ?_)
    obtain ⟨rfl, e18, hz18, hz18a, hz18b⟩ := hp
    replace e18 := e18.symm
    subst e18
    try simp (disch := decide) only [ot_rd, ot_rs, ot_rf, ot_ucd, ot_ucs] at hz18
    refine tt_if_ne X 36 (by first | omega | (simp (disch := decide) only [ot_rd, ot_rs, ot_rf, ot_ucd, ot_ucs]; omega)) dX9_pin_21 (by decide) (fun b21 => ?_) (fun b21 => ?_)
    · refine tt_iconst X dX9_pin_36 ?_
      refine tt_iret X ⟨hr.1, hr.2.1⟩ (by decide) (by decide) dX9_pin_37 ?_
      refine ⟨rfl, Or.inr ⟨?_, rfl, rfl⟩⟩
      first | exact fun h => absurd h.1 (by omega) | exact fun h => by obtain ⟨i, h1, h2, h3⟩ := hz18a (by omega); exact h.2 i h1 h2 h3
    · refine tt_aload_n X rfl dX9_pin_24 ?_
      refine tt_getr X fX9_12 (k_0 _ _) (by decide) ⟨nofun, nofun⟩ rfl dX9_pin_25 ?_
      refine tt_geti X fX9_99 (k_1 _ _) (by decide) (Or.inl rfl) dX9_pin_28 ?_
      try simp (disch := decide) only [ot_rd, ot_rs, ot_rf, ot_ucd, ot_ucs]
      refine tt_bipush X (by decide) dX9_pin_31 ?_
      refine tt_icmp_lt X 38 (by first | omega | (simp (disch := decide) only [ot_rd, ot_rs, ot_rf, ot_ucd, ot_ucs]; omega)) dX9_pin_33 (by decide) (fun b33 => ?_) (fun b33 => ?_)
      · refine tt_aload_n X rfl dX9_pin_38 ?_
        refine tt_getr X fX9_12 (k_0 _ _) (by decide) ⟨nofun, nofun⟩ rfl dX9_pin_39 ?_
        refine tt_geti X fX9_99 (k_1 _ _) (by decide) (Or.inl rfl) dX9_pin_42 ?_
        try simp (disch := decide) only [ot_rd, ot_rs, ot_rf, ot_ucd, ot_ucs]
        refine tt_istore_n X dX9_pin_45 (by decide) ?_
        refine tt_aload_n X rfl dX9_pin_46 ?_
        refine tt_getr X fX9_12 (k_0 _ _) (by decide) ⟨nofun, nofun⟩ rfl dX9_pin_47 ?_
        refine tt_getr X fX9_102 (k_1 _ _) (by decide) ⟨nofun, nofun⟩ rfl dX9_pin_50 ?_
        refine tt_iload_n X rfl dX9_pin_53 ?_
        refine tt_iload_n X rfl dX9_pin_54 ?_
        refine tt_iastore X (k_2 _ _) (by first | omega | (simp (disch := decide) only [ot_rd, ot_rs, ot_rf, ot_ucd, ot_ucs]; omega)) dX9_pin_55 ?_
        refine tt_aload_n X rfl dX9_pin_56 ?_
        refine tt_getr X fX9_12 (k_0 _ _) (by decide) ⟨nofun, nofun⟩ rfl dX9_pin_57 ?_
        refine tt_getr X fX9_105 (k_1 _ _) (by decide) ⟨nofun, nofun⟩ rfl dX9_pin_60 ?_
        refine tt_iload_n X rfl dX9_pin_63 ?_
        refine tt_iload_n X rfl dX9_pin_64 ?_
        refine tt_iastore X (k_3 _ _) (by first | omega | (simp (disch := decide) only [ot_rd, ot_rs, ot_rf, ot_ucd, ot_ucs]; omega)) dX9_pin_65 ?_
        refine tt_aload_n X rfl dX9_pin_66 ?_
        refine tt_getr X fX9_12 (k_0 _ _) (by decide) ⟨nofun, nofun⟩ rfl dX9_pin_67 ?_
        refine tt_iload_n X rfl dX9_pin_70 ?_
        refine tt_iconst X dX9_pin_71 ?_
        refine tt_iadd X dX9_pin_72 ?_
        refine tt_puti X fX9_99 kc_8 (k_1 _ _) (by decide) (fun q hq => by cases hq; rfl) rfl dX9_pin_73 ?_
        refine tt_aload_n X rfl dX9_pin_76 ?_
        refine tt_iconst X dX9_pin_77 ?_
        refine tt_puti X fX9_89 kc_9 (k_0 _ _) (by decide) (fun q hq => by cases hq; rfl) rfl dX9_pin_78 ?_
        refine tt_iload_n X rfl dX9_pin_81 ?_
        refine tt_iret X ⟨hr.1, hr.2.1⟩ (by decide) (by decide) dX9_pin_82 ?_
        exact ⟨rfl, Or.inl ⟨⟨by omega, hz18b (by omega)⟩, rfl, rfl⟩⟩
      · refine tt_iconst X dX9_pin_36 ?_
        refine tt_iret X ⟨hr.1, hr.2.1⟩ (by decide) (by decide) dX9_pin_37 ?_
        refine ⟨rfl, Or.inr ⟨?_, rfl, rfl⟩⟩
        first | exact fun h => absurd h.1 (by omega) | exact fun h => by obtain ⟨i, h1, h2, h3⟩ := hz18a (by omega); exact h.2 i h1 h2 h3
set_option maxRecDepth 100000 in
set_option maxHeartbeats 4000000 in
theorem c_line (l : Launch) (g : ot_G) (ln : Nat) (ext : ot_L) (μ : ot_M) (a b : Int) (ha : -2147483648 ≤ a ∧ a ≤ 2147483647) (hb : -2147483648 ≤ b ∧ b ≤ 2147483647)(hN : 0 ≤ μ 1 12 ∧ μ 1 12 ≤ 24) (hM : 0 ≤ μ 1 13 ∧ μ 1 13 ≤ 20)(hQ : ∀ i, 0 ≤ i → i < μ 1 13 → (0 ≤ μ 9 i ∧ μ 9 i < 24) ∧ (0 ≤ μ 10 i ∧ μ 10 i < 24)) : ot_C l g yX9_line cX9_line 4 (some .int) 2 0 0 [.inr 0, .inl a, .inl b] (LL ln ext) μ (ot_pi (fun r L2 μ2 => L2 = LL ln ext ∧ ((((0 ≤ a ∧ a < μ 1 12 ∧ 0 ≤ b ∧ b < μ 1 12 ∧ a ≠ b ∧ μ 1 13 < 20) ∧ ∀ i, 0 ≤ i → i < μ 1 13 → ¬ (μ 9 i = a ∧ μ 10 i = b ∨ μ 9 i = b ∧ μ 10 i = a)) ∧ r = μ 1 13 ∧ μ2 = ot_up (ot_up (ot_up μ 9 (μ 1 13) a) 10 (μ 1 13) b) 1 13 (μ 1 13 + 1)) ∨ (¬ ((0 ≤ a ∧ a < μ 1 12 ∧ 0 ≤ b ∧ b < μ 1 12 ∧ a ≠ b ∧ μ 1 13 < 20) ∧ ∀ i, 0 ≤ i → i < μ 1 13 → ¬ (μ 9 i = a ∧ μ 10 i = b ∨ μ 9 i = b ∧ μ 10 i = a)) ∧ r = -1 ∧ μ2 = μ)))) := by
  refine ot_enter (by decide) (Nat.le_of_ble_eq_true rfl) ?_
  intro p e s m args below meth c X hr
  refine tt_aload_n X rfl dX9_line_0 ?_
  refine tt_getr X fX9_12 (k_0 _ _) (by decide) ⟨nofun, nofun⟩ rfl dX9_line_1 ?_
  refine tt_iload_n X rfl dX9_line_4 ?_
  refine tt_iload_n X rfl dX9_line_5 ?_
  refine tt_vi X rfl mX9_198 (c_isLine l g ln ext _ _ _ (by first | omega | (simp (disch := decide) only [ot_rd, ot_rs, ot_rf, ot_ucd, ot_ucs]; omega)) (by first | omega | (simp (disch := decide) only [ot_rd, ot_rs, ot_rf, ot_ucd, ot_ucs]; omega)) (by first | omega | (simp (disch := decide) only [ot_rd, ot_rs, ot_rf, ot_ucd, ot_ucs]; omega))) (k_1 _ _) ⟨_, rfl, rfl⟩ rfl rfl (Nat.le_of_ble_eq_true rfl) (by decide) (by decide) (by decide) dX9_line_6 (fun z6 L6 μ6 hp => ?_)
  obtain ⟨rfl, e6, hz6⟩ := hp
  replace e6 := e6.symm
  subst e6
  try simp (disch := decide) only [ot_rd, ot_rs, ot_rf, ot_ucd, ot_ucs] at hz6
  refine tt_if_eq X 36 (by first | omega | (simp (disch := decide) only [ot_rd, ot_rs, ot_rf, ot_ucd, ot_ucs]; omega)) dX9_line_9 (by decide) (fun b9 => ?_) (fun b9 => ?_)
  · refine tt_iconst X dX9_line_36 ?_
    refine tt_iret X ⟨hr.1, hr.2.1⟩ (by decide) (by decide) dX9_line_37 ?_
    refine ⟨rfl, Or.inr ⟨?_, rfl, rfl⟩⟩
    first | exact fun h => absurd h.1 (by omega) | exact fun h => by obtain ⟨i, h1, h2, h3⟩ := hz30a (by omega); exact h.2 i h1 h2 h3
  · refine tt_aload_n X rfl dX9_line_12 ?_
    refine tt_getr X fX9_12 (k_0 _ _) (by decide) ⟨nofun, nofun⟩ rfl dX9_line_13 ?_
    refine tt_geti X fX9_233 (k_1 _ _) (by decide) (Or.inl rfl) dX9_line_16 ?_
    try simp (disch := decide) only [ot_rd, ot_rs, ot_rf, ot_ucd, ot_ucs]
    refine tt_bipush X (by decide) dX9_line_19 ?_
    refine tt_icmp_ge X 36 (by first | omega | (simp (disch := decide) only [ot_rd, ot_rs, ot_rf, ot_ucd, ot_ucs]; omega)) dX9_line_21 (by decide) (fun b21 => ?_) (fun b21 => ?_)
    · refine tt_iconst X dX9_line_36 ?_
      refine tt_iret X ⟨hr.1, hr.2.1⟩ (by decide) (by decide) dX9_line_37 ?_
      refine ⟨rfl, Or.inr ⟨?_, rfl, rfl⟩⟩
      first | exact fun h => absurd h.1 (by omega) | exact fun h => by obtain ⟨i, h1, h2, h3⟩ := hz30a (by omega); exact h.2 i h1 h2 h3
    · refine tt_aload_n X rfl dX9_line_24 ?_
      refine tt_getr X fX9_12 (k_0 _ _) (by decide) ⟨nofun, nofun⟩ rfl dX9_line_25 ?_
      refine tt_iload_n X rfl dX9_line_28 ?_
      refine tt_iload_n X rfl dX9_line_29 ?_
      refine tt_vi X rfl mX9_234 (c_hasInSet l g ln ext _ _ _ (by omega) (by omega) (by omega) hQ) (k_1 _ _) ⟨_, rfl, rfl⟩ rfl rfl (Nat.le_of_ble_eq_true rfl) (by decide) (by decide) (by decide) dX9_line_30 (fun z30 L30 μ30 hp => ?_)
      obtain ⟨rfl, e30, hz30, hz30a, hz30b⟩ := hp
      replace e30 := e30.symm
      subst e30
      try simp (disch := decide) only [ot_rd, ot_rs, ot_rf, ot_ucd, ot_ucs] at hz30
      refine tt_if_eq X 38 (by first | omega | (simp (disch := decide) only [ot_rd, ot_rs, ot_rf, ot_ucd, ot_ucs]; omega)) dX9_line_33 (by decide) (fun b33 => ?_) (fun b33 => ?_)
      · refine tt_aload_n X rfl dX9_line_38 ?_
        refine tt_getr X fX9_12 (k_0 _ _) (by decide) ⟨nofun, nofun⟩ rfl dX9_line_39 ?_
        refine tt_geti X fX9_233 (k_1 _ _) (by decide) (Or.inl rfl) dX9_line_42 ?_
        try simp (disch := decide) only [ot_rd, ot_rs, ot_rf, ot_ucd, ot_ucs]
        refine tt_istore_n X dX9_line_45 (by decide) ?_
        refine tt_aload_n X rfl dX9_line_46 ?_
        refine tt_getr X fX9_12 (k_0 _ _) (by decide) ⟨nofun, nofun⟩ rfl dX9_line_47 ?_
        refine tt_getr X fX9_237 (k_1 _ _) (by decide) ⟨nofun, nofun⟩ rfl dX9_line_50 ?_
        refine tt_iload_n X rfl dX9_line_53 ?_
        refine tt_iload_n X rfl dX9_line_54 ?_
        refine tt_iastore X (k_9 _ _) (by first | omega | (simp (disch := decide) only [ot_rd, ot_rs, ot_rf, ot_ucd, ot_ucs]; omega)) dX9_line_55 ?_
        refine tt_aload_n X rfl dX9_line_56 ?_
        refine tt_getr X fX9_12 (k_0 _ _) (by decide) ⟨nofun, nofun⟩ rfl dX9_line_57 ?_
        refine tt_getr X fX9_240 (k_1 _ _) (by decide) ⟨nofun, nofun⟩ rfl dX9_line_60 ?_
        refine tt_iload_n X rfl dX9_line_63 ?_
        refine tt_iload_n X rfl dX9_line_64 ?_
        refine tt_iastore X (k_10 _ _) (by first | omega | (simp (disch := decide) only [ot_rd, ot_rs, ot_rf, ot_ucd, ot_ucs]; omega)) dX9_line_65 ?_
        refine tt_aload_n X rfl dX9_line_66 ?_
        refine tt_getr X fX9_12 (k_0 _ _) (by decide) ⟨nofun, nofun⟩ rfl dX9_line_67 ?_
        refine tt_iload_n X rfl dX9_line_70 ?_
        refine tt_iconst X dX9_line_71 ?_
        refine tt_iadd X dX9_line_72 ?_
        refine tt_puti X fX9_233 kc_8 (k_1 _ _) (by decide) (fun q hq => by cases hq; rfl) rfl dX9_line_73 ?_
        refine tt_iload_n X rfl dX9_line_76 ?_
        refine tt_iret X ⟨hr.1, hr.2.1⟩ (by decide) (by decide) dX9_line_77 ?_
        exact ⟨rfl, Or.inl ⟨⟨by omega, hz30b (by omega)⟩, rfl, rfl⟩⟩
      · refine tt_iconst X dX9_line_36 ?_
        refine tt_iret X ⟨hr.1, hr.2.1⟩ (by decide) (by decide) dX9_line_37 ?_
        refine ⟨rfl, Or.inr ⟨?_, rfl, rfl⟩⟩
        first | exact fun h => absurd h.1 (by omega) | exact fun h => by obtain ⟨i, h1, h2, h3⟩ := hz30a (by omega); exact h.2 i h1 h2 h3
set_option maxRecDepth 100000 in
set_option maxHeartbeats 4000000 in
theorem c_want (l : Launch) (g : ot_G) (ln : Nat) (ext : ot_L) (μ : ot_M) (p0 x y v : Int) (hp0 : -2147483648 ≤ p0 ∧ p0 ≤ 2147483647) (hx : -2147483648 ≤ x ∧ x ≤ 2147483647) (hy : -2147483648 ≤ y ∧ y ≤ 2147483647) (hv : -2147483648 ≤ v ∧ v ≤ 2147483647)(hS : 2 ≤ μ 1 11 ∧ μ 1 11 ≤ 8) : ot_C l g yX9_want cX9_want 6 (some .boolean) 1 0 0 [.inr 0, .inl p0, .inl x, .inl y, .inl v] (LL ln ext) μ (ot_pi (fun r L2 μ2 => L2 = LL ln ext ∧ ((((0 ≤ p0 ∧ p0 < 4) ∧ (0 ≤ x ∧ x < μ 1 11 ∧ 0 ≤ y ∧ y < μ 1 11) ∧ 0 ≤ v ∧ v ≤ 999) ∧ r = 1 ∧ μ2 = ot_up μ 4 (p0 * 64 + (x + 8 * y)) v) ∨ (¬ ((0 ≤ p0 ∧ p0 < 4) ∧ (0 ≤ x ∧ x < μ 1 11 ∧ 0 ≤ y ∧ y < μ 1 11) ∧ 0 ≤ v ∧ v ≤ 999) ∧ r = 0 ∧ μ2 = μ)))) := by
  refine ot_enter (by decide) (Nat.le_of_ble_eq_true rfl) ?_
  intro p e s m args below meth c X hr
  refine tt_aload_n X rfl dX9_want_0 ?_
  refine tt_getr X fX9_12 (k_0 _ _) (by decide) ⟨nofun, nofun⟩ rfl dX9_want_1 ?_
  refine tt_iload_n X rfl dX9_want_4 ?_
  refine tt_iload_n X rfl dX9_want_5 ?_
  refine tt_vi X rfl mX9_108 (c_squareAt l g ln ext _ _ _ (by first | omega | (simp (disch := decide) only [ot_rd, ot_rs, ot_rf, ot_ucd, ot_ucs]; omega)) (by first | omega | (simp (disch := decide) only [ot_rd, ot_rs, ot_rf, ot_ucd, ot_ucs]; omega)) (by first | omega | (simp (disch := decide) only [ot_rd, ot_rs, ot_rf, ot_ucd, ot_ucs]; omega))) (k_1 _ _) ⟨_, rfl, rfl⟩ rfl rfl (Nat.le_of_ble_eq_true rfl) (by decide) (by decide) (by decide) dX9_want_6 (fun z6 L6 μ6 hp => ?_)
  obtain ⟨rfl, e6, hz6⟩ := hp
  replace e6 := e6.symm
  subst e6
  try simp (disch := decide) only [ot_rd, ot_rs, ot_rf, ot_ucd, ot_ucs] at hz6
  refine tt_istore X dX9_want_9 (by decide) ?_
  refine tt_iload_n X rfl dX9_want_11 ?_
  refine tt_si X rfl mX9_112 (c_isPicture l g ln ext _ _ (by first | omega | (simp (disch := decide) only [ot_rd, ot_rs, ot_rf, ot_ucd, ot_ucs]; omega))) rfl rfl (Nat.le_of_ble_eq_true rfl) (by decide) (by decide) (by decide) dX9_want_12 (fun z12 L12 μ12 hp => ?_)
  obtain ⟨rfl, e12, hz12⟩ := hp
  replace e12 := e12.symm
  subst e12
  try simp (disch := decide) only [ot_rd, ot_rs, ot_rf, ot_ucd, ot_ucs] at hz12
  refine tt_if_eq X 37 (by first | omega | (simp (disch := decide) only [ot_rd, ot_rs, ot_rf, ot_ucd, ot_ucs]; omega)) dX9_want_15 (by decide) (fun b15 => ?_) (fun b15 => ?_)
  · refine tt_iconst X dX9_want_37 ?_
    refine tt_zret X ⟨hr.1, hr.2.1⟩ (by omega) (by decide) (by decide) dX9_want_38 ?_
    first | exact ⟨rfl, Or.inr ⟨by omega, rfl, rfl⟩⟩ | (refine ⟨rfl, Or.inl ⟨by omega, rfl, ?_⟩⟩; rw [if_pos (by omega)] at hz6; rw [hz6])
  · refine tt_iload X rfl dX9_want_18 ?_
    refine tt_iconst X dX9_want_20 ?_
    refine tt_icmp_eq X 37 (by first | omega | (simp (disch := decide) only [ot_rd, ot_rs, ot_rf, ot_ucd, ot_ucs]; omega)) dX9_want_21 (by decide) (fun b21 => ?_) (fun b21 => ?_)
    · refine tt_iconst X dX9_want_37 ?_
      refine tt_zret X ⟨hr.1, hr.2.1⟩ (by omega) (by decide) (by decide) dX9_want_38 ?_
      first | exact ⟨rfl, Or.inr ⟨by omega, rfl, rfl⟩⟩ | (refine ⟨rfl, Or.inl ⟨by omega, rfl, ?_⟩⟩; rw [if_pos (by omega)] at hz6; rw [hz6])
    · refine tt_iload X rfl dX9_want_24 ?_
      refine tt_if_lt X 37 (by first | omega | (simp (disch := decide) only [ot_rd, ot_rs, ot_rf, ot_ucd, ot_ucs]; omega)) dX9_want_26 (by decide) (fun b26 => ?_) (fun b26 => ?_)
      · refine tt_iconst X dX9_want_37 ?_
        refine tt_zret X ⟨hr.1, hr.2.1⟩ (by omega) (by decide) (by decide) dX9_want_38 ?_
        first | exact ⟨rfl, Or.inr ⟨by omega, rfl, rfl⟩⟩ | (refine ⟨rfl, Or.inl ⟨by omega, rfl, ?_⟩⟩; rw [if_pos (by omega)] at hz6; rw [hz6])
      · refine tt_iload X rfl dX9_want_29 ?_
        refine tt_sipush X (by decide) dX9_want_31 ?_
        refine tt_icmp_le X 39 (by first | omega | (simp (disch := decide) only [ot_rd, ot_rs, ot_rf, ot_ucd, ot_ucs]; omega)) dX9_want_34 (by decide) (fun b34 => ?_) (fun b34 => ?_)
        · refine tt_aload_n X rfl dX9_want_39 ?_
          refine tt_getr X fX9_12 (k_0 _ _) (by decide) ⟨nofun, nofun⟩ rfl dX9_want_40 ?_
          refine tt_getr X fX9_116 (k_1 _ _) (by decide) ⟨nofun, nofun⟩ rfl dX9_want_43 ?_
          refine tt_iload_n X rfl dX9_want_46 ?_
          refine tt_bipush X (by decide) dX9_want_47 ?_
          refine tt_imul X dX9_want_49 ?_
          refine tt_iload X rfl dX9_want_50 ?_
          refine tt_iadd X dX9_want_52 ?_
          refine tt_iload X rfl dX9_want_53 ?_
          refine tt_iastore X (k_4 _ _) (by first | omega | (simp (disch := decide) only [ot_rd, ot_rs, ot_rf, ot_ucd, ot_ucs]; omega)) dX9_want_55 ?_
          refine tt_iconst X dX9_want_56 ?_
          refine tt_zret X ⟨hr.1, hr.2.1⟩ (by omega) (by decide) (by decide) dX9_want_57 ?_
          first | exact ⟨rfl, Or.inr ⟨by omega, rfl, rfl⟩⟩ | (refine ⟨rfl, Or.inl ⟨by omega, rfl, ?_⟩⟩; rw [if_pos (by omega)] at hz6; rw [hz6])
        · refine tt_iconst X dX9_want_37 ?_
          refine tt_zret X ⟨hr.1, hr.2.1⟩ (by omega) (by decide) (by decide) dX9_want_38 ?_
          first | exact ⟨rfl, Or.inr ⟨by omega, rfl, rfl⟩⟩ | (refine ⟨rfl, Or.inl ⟨by omega, rfl, ?_⟩⟩; rw [if_pos (by omega)] at hz6; rw [hz6])
set_option maxRecDepth 100000 in
set_option maxHeartbeats 4000000 in
theorem c_weight (l : Launch) (g : ot_G) (ln : Nat) (ext : ot_L) (μ : ot_M) (x y v : Int) (hx : -2147483648 ≤ x ∧ x ≤ 2147483647) (hy : -2147483648 ≤ y ∧ y ≤ 2147483647) (hv : -2147483648 ≤ v ∧ v ≤ 2147483647)(hS : 2 ≤ μ 1 11 ∧ μ 1 11 ≤ 8) : ot_C l g yX9_weight cX9_weight 5 (some .boolean) 1 0 0 [.inr 0, .inl x, .inl y, .inl v] (LL ln ext) μ (ot_pi (fun r L2 μ2 => L2 = LL ln ext ∧ ((((0 ≤ x ∧ x < μ 1 11 ∧ 0 ≤ y ∧ y < μ 1 11) ∧ 0 ≤ v ∧ v ≤ 9) ∧ r = 1 ∧ μ2 = ot_up μ 5 (x + 8 * y) v) ∨ (¬ ((0 ≤ x ∧ x < μ 1 11 ∧ 0 ≤ y ∧ y < μ 1 11) ∧ 0 ≤ v ∧ v ≤ 9) ∧ r = 0 ∧ μ2 = μ)))) := by
  refine ot_enter (by decide) (Nat.le_of_ble_eq_true rfl) ?_
  intro p e s m args below meth c X hr
  refine tt_aload_n X rfl dX9_weight_0 ?_
  refine tt_getr X fX9_12 (k_0 _ _) (by decide) ⟨nofun, nofun⟩ rfl dX9_weight_1 ?_
  refine tt_iload_n X rfl dX9_weight_4 ?_
  refine tt_iload_n X rfl dX9_weight_5 ?_
  refine tt_vi X rfl mX9_108 (c_squareAt l g ln ext _ _ _ (by first | omega | (simp (disch := decide) only [ot_rd, ot_rs, ot_rf, ot_ucd, ot_ucs]; omega)) (by first | omega | (simp (disch := decide) only [ot_rd, ot_rs, ot_rf, ot_ucd, ot_ucs]; omega)) (by first | omega | (simp (disch := decide) only [ot_rd, ot_rs, ot_rf, ot_ucd, ot_ucs]; omega))) (k_1 _ _) ⟨_, rfl, rfl⟩ rfl rfl (Nat.le_of_ble_eq_true rfl) (by decide) (by decide) (by decide) dX9_weight_6 (fun z6 L6 μ6 hp => ?_)
  obtain ⟨rfl, e6, hz6⟩ := hp
  replace e6 := e6.symm
  subst e6
  try simp (disch := decide) only [ot_rd, ot_rs, ot_rf, ot_ucd, ot_ucs] at hz6
  refine tt_istore X dX9_weight_9 (by decide) ?_
  refine tt_iload X rfl dX9_weight_11 ?_
  refine tt_iconst X dX9_weight_13 ?_
  refine tt_icmp_eq X 27 (by first | omega | (simp (disch := decide) only [ot_rd, ot_rs, ot_rf, ot_ucd, ot_ucs]; omega)) dX9_weight_14 (by decide) (fun b14 => ?_) (fun b14 => ?_)
  · refine tt_iconst X dX9_weight_27 ?_
    refine tt_zret X ⟨hr.1, hr.2.1⟩ (by omega) (by decide) (by decide) dX9_weight_28 ?_
    first | exact ⟨rfl, Or.inr ⟨by omega, rfl, rfl⟩⟩ | (refine ⟨rfl, Or.inl ⟨by omega, rfl, ?_⟩⟩; rw [if_pos (by omega)] at hz6; rw [hz6])
  · refine tt_iload_n X rfl dX9_weight_17 ?_
    refine tt_if_lt X 27 (by first | omega | (simp (disch := decide) only [ot_rd, ot_rs, ot_rf, ot_ucd, ot_ucs]; omega)) dX9_weight_18 (by decide) (fun b18 => ?_) (fun b18 => ?_)
    · refine tt_iconst X dX9_weight_27 ?_
      refine tt_zret X ⟨hr.1, hr.2.1⟩ (by omega) (by decide) (by decide) dX9_weight_28 ?_
      first | exact ⟨rfl, Or.inr ⟨by omega, rfl, rfl⟩⟩ | (refine ⟨rfl, Or.inl ⟨by omega, rfl, ?_⟩⟩; rw [if_pos (by omega)] at hz6; rw [hz6])
    · refine tt_iload_n X rfl dX9_weight_21 ?_
      refine tt_bipush X (by decide) dX9_weight_22 ?_
      refine tt_icmp_le X 29 (by first | omega | (simp (disch := decide) only [ot_rd, ot_rs, ot_rf, ot_ucd, ot_ucs]; omega)) dX9_weight_24 (by decide) (fun b24 => ?_) (fun b24 => ?_)
      · refine tt_aload_n X rfl dX9_weight_29 ?_
        refine tt_getr X fX9_12 (k_0 _ _) (by decide) ⟨nofun, nofun⟩ rfl dX9_weight_30 ?_
        refine tt_getr X fX9_119 (k_1 _ _) (by decide) ⟨nofun, nofun⟩ rfl dX9_weight_33 ?_
        refine tt_iload X rfl dX9_weight_36 ?_
        refine tt_iload_n X rfl dX9_weight_38 ?_
        refine tt_iastore X (k_5 _ _) (by first | omega | (simp (disch := decide) only [ot_rd, ot_rs, ot_rf, ot_ucd, ot_ucs]; omega)) dX9_weight_39 ?_
        refine tt_iconst X dX9_weight_40 ?_
        refine tt_zret X ⟨hr.1, hr.2.1⟩ (by omega) (by decide) (by decide) dX9_weight_41 ?_
        first | exact ⟨rfl, Or.inr ⟨by omega, rfl, rfl⟩⟩ | (refine ⟨rfl, Or.inl ⟨by omega, rfl, ?_⟩⟩; rw [if_pos (by omega)] at hz6; rw [hz6])
      · refine tt_iconst X dX9_weight_27 ?_
        refine tt_zret X ⟨hr.1, hr.2.1⟩ (by omega) (by decide) (by decide) dX9_weight_28 ?_
        first | exact ⟨rfl, Or.inr ⟨by omega, rfl, rfl⟩⟩ | (refine ⟨rfl, Or.inl ⟨by omega, rfl, ?_⟩⟩; rw [if_pos (by omega)] at hz6; rw [hz6])
set_option maxRecDepth 100000 in
set_option maxHeartbeats 4000000 in
theorem c_tell (l : Launch) (g : ot_G) (ln : Nat) (ext : ot_L) (μ : ot_M) (x y v : Int) (hx : -2147483648 ≤ x ∧ x ≤ 2147483647) (hy : -2147483648 ≤ y ∧ y ≤ 2147483647) (hv : -2147483648 ≤ v ∧ v ≤ 2147483647)(hS : 2 ≤ μ 1 11 ∧ μ 1 11 ≤ 8) : ot_C l g yX9_tell cX9_tell 5 (some .boolean) 1 0 0 [.inr 0, .inl x, .inl y, .inl v] (LL ln ext) μ (ot_pi (fun r L2 μ2 => L2 = LL ln ext ∧ ((((0 ≤ x ∧ x < μ 1 11 ∧ 0 ≤ y ∧ y < μ 1 11) ∧ -1 ≤ v ∧ v ≤ 9999) ∧ r = 1 ∧ μ2 = ot_up μ 11 (x + 8 * y) v) ∨ (¬ ((0 ≤ x ∧ x < μ 1 11 ∧ 0 ≤ y ∧ y < μ 1 11) ∧ -1 ≤ v ∧ v ≤ 9999) ∧ r = 0 ∧ μ2 = μ)))) := by
  refine ot_enter (by decide) (Nat.le_of_ble_eq_true rfl) ?_
  intro p e s m args below meth c X hr
  refine tt_aload_n X rfl dX9_tell_0 ?_
  refine tt_getr X fX9_12 (k_0 _ _) (by decide) ⟨nofun, nofun⟩ rfl dX9_tell_1 ?_
  refine tt_iload_n X rfl dX9_tell_4 ?_
  refine tt_iload_n X rfl dX9_tell_5 ?_
  refine tt_vi X rfl mX9_108 (c_squareAt l g ln ext _ _ _ (by first | omega | (simp (disch := decide) only [ot_rd, ot_rs, ot_rf, ot_ucd, ot_ucs]; omega)) (by first | omega | (simp (disch := decide) only [ot_rd, ot_rs, ot_rf, ot_ucd, ot_ucs]; omega)) (by first | omega | (simp (disch := decide) only [ot_rd, ot_rs, ot_rf, ot_ucd, ot_ucs]; omega))) (k_1 _ _) ⟨_, rfl, rfl⟩ rfl rfl (Nat.le_of_ble_eq_true rfl) (by decide) (by decide) (by decide) dX9_tell_6 (fun z6 L6 μ6 hp => ?_)
  obtain ⟨rfl, e6, hz6⟩ := hp
  replace e6 := e6.symm
  subst e6
  try simp (disch := decide) only [ot_rd, ot_rs, ot_rf, ot_ucd, ot_ucs] at hz6
  refine tt_istore X dX9_tell_9 (by decide) ?_
  refine tt_iload X rfl dX9_tell_11 ?_
  refine tt_iconst X dX9_tell_13 ?_
  refine tt_icmp_eq X 29 (by first | omega | (simp (disch := decide) only [ot_rd, ot_rs, ot_rf, ot_ucd, ot_ucs]; omega)) dX9_tell_14 (by decide) (fun b14 => ?_) (fun b14 => ?_)
  · refine tt_iconst X dX9_tell_29 ?_
    refine tt_zret X ⟨hr.1, hr.2.1⟩ (by omega) (by decide) (by decide) dX9_tell_30 ?_
    first | exact ⟨rfl, Or.inr ⟨by omega, rfl, rfl⟩⟩ | (refine ⟨rfl, Or.inl ⟨by omega, rfl, ?_⟩⟩; rw [if_pos (by omega)] at hz6; rw [hz6])
  · refine tt_iload_n X rfl dX9_tell_17 ?_
    refine tt_iconst X dX9_tell_18 ?_
    refine tt_icmp_lt X 29 (by first | omega | (simp (disch := decide) only [ot_rd, ot_rs, ot_rf, ot_ucd, ot_ucs]; omega)) dX9_tell_19 (by decide) (fun b19 => ?_) (fun b19 => ?_)
    · refine tt_iconst X dX9_tell_29 ?_
      refine tt_zret X ⟨hr.1, hr.2.1⟩ (by omega) (by decide) (by decide) dX9_tell_30 ?_
      first | exact ⟨rfl, Or.inr ⟨by omega, rfl, rfl⟩⟩ | (refine ⟨rfl, Or.inl ⟨by omega, rfl, ?_⟩⟩; rw [if_pos (by omega)] at hz6; rw [hz6])
    · refine tt_iload_n X rfl dX9_tell_22 ?_
      refine tt_sipush X (by decide) dX9_tell_23 ?_
      refine tt_icmp_le X 31 (by first | omega | (simp (disch := decide) only [ot_rd, ot_rs, ot_rf, ot_ucd, ot_ucs]; omega)) dX9_tell_26 (by decide) (fun b26 => ?_) (fun b26 => ?_)
      · refine tt_aload_n X rfl dX9_tell_31 ?_
        refine tt_getr X fX9_12 (k_0 _ _) (by decide) ⟨nofun, nofun⟩ rfl dX9_tell_32 ?_
        refine tt_getr X fX9_267 (k_1 _ _) (by decide) ⟨nofun, nofun⟩ rfl dX9_tell_35 ?_
        refine tt_iload X rfl dX9_tell_38 ?_
        refine tt_iload_n X rfl dX9_tell_40 ?_
        refine tt_iastore X (k_11 _ _) (by first | omega | (simp (disch := decide) only [ot_rd, ot_rs, ot_rf, ot_ucd, ot_ucs]; omega)) dX9_tell_41 ?_
        refine tt_iconst X dX9_tell_42 ?_
        refine tt_zret X ⟨hr.1, hr.2.1⟩ (by omega) (by decide) (by decide) dX9_tell_43 ?_
        first | exact ⟨rfl, Or.inr ⟨by omega, rfl, rfl⟩⟩ | (refine ⟨rfl, Or.inl ⟨by omega, rfl, ?_⟩⟩; rw [if_pos (by omega)] at hz6; rw [hz6])
      · refine tt_iconst X dX9_tell_29 ?_
        refine tt_zret X ⟨hr.1, hr.2.1⟩ (by omega) (by decide) (by decide) dX9_tell_30 ?_
        first | exact ⟨rfl, Or.inr ⟨by omega, rfl, rfl⟩⟩ | (refine ⟨rfl, Or.inl ⟨by omega, rfl, ?_⟩⟩; rw [if_pos (by omega)] at hz6; rw [hz6])
set_option maxRecDepth 100000 in
set_option maxHeartbeats 4000000 in
theorem c_end (l : Launch) (g : ot_G) (ln : Nat) (ext : ot_L) (μ : ot_M) (n : Int) (hn : -2147483648 ≤ n ∧ n ≤ 2147483647)(hT : 0 ≤ μ 0 10 ∧ μ 0 10 ≤ 400) : ot_C l g yX9_end cX9_end 2 (some .boolean) 0 0 0 [.inr 0, .inl n] (LL ln ext) μ (ot_pi (fun r L2 μ2 => L2 = LL ln ext ∧ ((0 ≤ n ∧ n ≤ μ 0 10 ∧ r = 1 ∧ μ2 = ot_up μ 0 10 n) ∨ (¬ (0 ≤ n ∧ n ≤ μ 0 10) ∧ r = 0 ∧ μ2 = μ)))) := by
  refine ot_enter (by decide) (Nat.le_of_ble_eq_true rfl) ?_
  intro p e s m args below meth c X hr
  refine tt_iload_n X rfl dX9_end_0 ?_
  refine tt_if_lt X 12 (by omega) dX9_end_1 (by decide) (fun b1 => ?_) (fun b1 => ?_)
  · refine tt_iconst X dX9_end_12 ?_
    refine tt_zret X ⟨hr.1, hr.2.1⟩ (by omega) (by decide) (by decide) dX9_end_13 ?_
    first | exact ⟨rfl, Or.inr ⟨by omega, rfl, rfl⟩⟩ | exact ⟨rfl, Or.inl ⟨by omega, by omega, rfl, rfl⟩⟩
  · refine tt_iload_n X rfl dX9_end_4 ?_
    refine tt_aload_n X rfl dX9_end_5 ?_
    refine tt_geti X fX9_157 (k_0 _ _) (by decide) (Or.inl rfl) dX9_end_6 ?_
    refine tt_icmp_le X 14 (by omega) dX9_end_9 (by decide) (fun b9 => ?_) (fun b9 => ?_)
    · refine tt_aload_n X rfl dX9_end_14 ?_
      refine tt_iload_n X rfl dX9_end_15 ?_
      refine tt_puti X fX9_157 kc_9 (k_0 _ _) (by decide) (fun q hq => by cases hq; rfl) rfl dX9_end_16 ?_
      refine tt_iconst X dX9_end_19 ?_
      refine tt_zret X ⟨hr.1, hr.2.1⟩ (by omega) (by decide) (by decide) dX9_end_20 ?_
      first | exact ⟨rfl, Or.inr ⟨by omega, rfl, rfl⟩⟩ | exact ⟨rfl, Or.inl ⟨by omega, by omega, rfl, rfl⟩⟩
    · refine tt_iconst X dX9_end_12 ?_
      refine tt_zret X ⟨hr.1, hr.2.1⟩ (by omega) (by decide) (by decide) dX9_end_13 ?_
      first | exact ⟨rfl, Or.inr ⟨by omega, rfl, rfl⟩⟩ | exact ⟨rfl, Or.inl ⟨by omega, by omega, rfl, rfl⟩⟩
set_option maxRecDepth 100000 in
set_option maxHeartbeats 4000000 in
theorem c_fault (l : Launch) (g : ot_G) (ln : Nat) (ext : ot_L) (μ : ot_M) (w : Int) (hw : -2147483648 ≤ w ∧ w ≤ 2147483647) : ot_C l g yX9_fault cX9_fault 2 (some .int) 0 0 0 [.inr 0, .inl w] (LL ln ext) μ (ot_pi (fun r L2 μ2 => L2 = LL ln ext ∧ μ2 = μ ∧ r = (if w = 0 then μ 0 11 else if w = 1 then μ 0 12 else -1))) := by
  refine ot_enter (by decide) (Nat.le_of_ble_eq_true rfl) ?_
  intro p e s m args below meth c X hr
  refine tt_iload_n X rfl dX9_fault_0 ?_
  rcases (show w = 0 ∨ w = 1 ∨ (w ≠ 0 ∧ w ≠ 1) by omega) with sw | sw | sw
  · refine tt_lookup X 28 (by omega) dX9_fault_1 (by decide) (by first | (rw [sw]; done) | (rw [sw]; rfl)) (by decide) ?_
    refine tt_aload_n X rfl dX9_fault_28 ?_
    refine tt_geti X fX9_170 (k_0 _ _) (by decide) (Or.inl rfl) dX9_fault_29 ?_
    refine tt_iret X ⟨hr.1, hr.2.1⟩ (by decide) (by decide) dX9_fault_32 ?_
    refine ⟨rfl, rfl, ?_⟩
    first | (rw [if_pos (by omega)]; done) | (rw [if_neg (by omega), if_pos (by omega)]; done) | rw [if_neg (by omega), if_neg (by omega)]
  · refine tt_lookup X 33 (by omega) dX9_fault_1 (by decide) (by first | (rw [sw]; done) | (rw [sw]; rfl)) (by decide) ?_
    refine tt_aload_n X rfl dX9_fault_33 ?_
    refine tt_geti X fX9_75 (k_0 _ _) (by decide) (Or.inl rfl) dX9_fault_34 ?_
    refine tt_iret X ⟨hr.1, hr.2.1⟩ (by decide) (by decide) dX9_fault_37 ?_
    refine ⟨rfl, rfl, ?_⟩
    first | (rw [if_pos (by omega)]; done) | (rw [if_neg (by omega), if_pos (by omega)]; done) | rw [if_neg (by omega), if_neg (by omega)]
  · refine tt_lookup X (off := 37) 38 (by omega) dX9_fault_1 (by decide) (by simp [Op.lookupswitch.offset_cons, Op.lookupswitch.offset, sw] <;> omega) (by decide) ?_
    refine tt_iconst X dX9_fault_38 ?_
    refine tt_iret X ⟨hr.1, hr.2.1⟩ (by decide) (by decide) dX9_fault_39 ?_
    refine ⟨rfl, rfl, ?_⟩
    first | (rw [if_pos (by omega)]; done) | (rw [if_neg (by omega), if_pos (by omega)]; done) | rw [if_neg (by omega), if_neg (by omega)]
set_option maxRecDepth 100000 in
set_option maxHeartbeats 4000000 in
theorem c_clear (l : Launch) (g : ot_G) (ln : Nat) (ext : ot_L) (μ : ot_M)  : ot_C l g yX9_clear cX9_clear 2 (some .int) 0 0 0 [.inr 0] (LL ln ext) μ (ot_pi (fun r L2 μ2 => L2 = LL ln ext ∧ μ2 = ot_up μ 1 13 0 ∧ r = μ 1 13)) := by
  refine ot_enter (by decide) (Nat.le_of_ble_eq_true rfl) ?_
  intro p e s m args below meth c X hr
  refine tt_aload_n X rfl dX9_clear_0 ?_
  refine tt_getr X fX9_12 (k_0 _ _) (by decide) ⟨nofun, nofun⟩ rfl dX9_clear_1 ?_
  refine tt_geti X fX9_233 (k_1 _ _) (by decide) (Or.inl rfl) dX9_clear_4 ?_
  refine tt_istore_n X dX9_clear_7 (by decide) ?_
  refine tt_aload_n X rfl dX9_clear_8 ?_
  refine tt_getr X fX9_12 (k_0 _ _) (by decide) ⟨nofun, nofun⟩ rfl dX9_clear_9 ?_
  refine tt_iconst X dX9_clear_12 ?_
  refine tt_puti X fX9_233 kc_8 (k_1 _ _) (by decide) (fun q hq => by cases hq; rfl) rfl dX9_clear_13 ?_
  refine tt_iload_n X rfl dX9_clear_16 ?_
  refine tt_iret X ⟨hr.1, hr.2.1⟩ (by decide) (by decide) dX9_clear_17 ?_
  exact ⟨rfl, rfl, rfl⟩
set_option maxRecDepth 100000 in
set_option maxHeartbeats 4000000 in
theorem c_wound (l : Launch) (g : ot_G) (ln : Nat) (ext : ot_L) (μ : ot_M) (t i : Int) (ht : -2147483648 ≤ t ∧ t ≤ 2147483647) (hi : -2147483648 ≤ i ∧ i ≤ 2147483647)(hC : ∀ t, 0 ≤ t → t < 3 → 0 ≤ μ 8 t ∧ μ 8 t ≤ 120) : ot_C l g yX9_wound cX9_wound 3 (some .int) 1 0 0 [.inr 0, .inl t, .inl i] (LL ln ext) μ (ot_pi (fun r L2 μ2 => L2 = LL ln ext ∧ μ2 = μ ∧ r = (if 0 ≤ t ∧ t < 3 then (if i = -1 then μ 8 t else if 0 ≤ i ∧ i < μ 8 t then μ 7 (t * 120 + i) else -1) else -1))) := by
  refine ot_enter (by decide) (Nat.le_of_ble_eq_true rfl) ?_
  intro p e s m args below meth c X hr
  refine tt_iload_n X rfl dX9_wound_0 ?_
  refine tt_si X rfl mX9_122 (c_isThread l g ln ext _ _ (by first | omega | (simp (disch := decide) only [ot_rd, ot_rs, ot_rf, ot_ucd, ot_ucs]; omega))) rfl rfl (Nat.le_of_ble_eq_true rfl) (by decide) (by decide) (by decide) dX9_wound_1 (fun z1 L1 μ1 hp => ?_)
  obtain ⟨rfl, e1, hz1⟩ := hp
  replace e1 := e1.symm
  subst e1
  try simp (disch := decide) only [ot_rd, ot_rs, ot_rf, ot_ucd, ot_ucs] at hz1
  refine tt_if_ne X 9 (by first | omega | (simp (disch := decide) only [ot_rd, ot_rs, ot_rf, ot_ucd, ot_ucs]; omega)) dX9_wound_4 (by decide) (fun b4 => ?_) (fun b4 => ?_)
  · have hCt := hC t (by omega) (by omega)
    refine tt_iload_n X rfl dX9_wound_9 ?_
    refine tt_iconst X dX9_wound_10 ?_
    refine tt_icmp_ne X 24 (by first | omega | (simp (disch := decide) only [ot_rd, ot_rs, ot_rf, ot_ucd, ot_ucs]; omega)) dX9_wound_11 (by decide) (fun b11 => ?_) (fun b11 => ?_)
    · refine tt_iload_n X rfl dX9_wound_24 ?_
      refine tt_if_lt X 58 (by first | omega | (simp (disch := decide) only [ot_rd, ot_rs, ot_rf, ot_ucd, ot_ucs]; omega)) dX9_wound_25 (by decide) (fun b25 => ?_) (fun b25 => ?_)
      · refine tt_iconst X dX9_wound_58 ?_
        refine tt_iret X ⟨hr.1, hr.2.1⟩ (by decide) (by decide) dX9_wound_59 ?_
        refine ⟨rfl, rfl, ?_⟩
        first | (rw [if_neg (by omega)]; done) | (rw [if_pos (by omega), if_pos (by omega)]; done) | (rw [if_pos (by omega), if_neg (by omega), if_pos (by omega)]; done) | rw [if_pos (by omega), if_neg (by omega), if_neg (by omega)]
      · refine tt_iload_n X rfl dX9_wound_28 ?_
        refine tt_aload_n X rfl dX9_wound_29 ?_
        refine tt_getr X fX9_12 (k_0 _ _) (by decide) ⟨nofun, nofun⟩ rfl dX9_wound_30 ?_
        refine tt_getr X fX9_151 (k_1 _ _) (by decide) ⟨nofun, nofun⟩ rfl dX9_wound_33 ?_
        refine tt_iload_n X rfl dX9_wound_36 ?_
        refine tt_iaload X (k_8 _ _) (by first | omega | (simp (disch := decide) only [ot_rd, ot_rs, ot_rf, ot_ucd, ot_ucs]; omega)) dX9_wound_37 ?_
        try simp (disch := decide) only [ot_rd, ot_rs, ot_rf, ot_ucd, ot_ucs]
        refine tt_icmp_ge X 58 (by first | omega | (simp (disch := decide) only [ot_rd, ot_rs, ot_rf, ot_ucd, ot_ucs]; omega)) dX9_wound_38 (by decide) (fun b38 => ?_) (fun b38 => ?_)
        · refine tt_iconst X dX9_wound_58 ?_
          refine tt_iret X ⟨hr.1, hr.2.1⟩ (by decide) (by decide) dX9_wound_59 ?_
          refine ⟨rfl, rfl, ?_⟩
          first | (rw [if_neg (by omega)]; done) | (rw [if_pos (by omega), if_pos (by omega)]; done) | (rw [if_pos (by omega), if_neg (by omega), if_pos (by omega)]; done) | rw [if_pos (by omega), if_neg (by omega), if_neg (by omega)]
        · refine tt_aload_n X rfl dX9_wound_41 ?_
          refine tt_getr X fX9_12 (k_0 _ _) (by decide) ⟨nofun, nofun⟩ rfl dX9_wound_42 ?_
          refine tt_getr X fX9_192 (k_1 _ _) (by decide) ⟨nofun, nofun⟩ rfl dX9_wound_45 ?_
          refine tt_iload_n X rfl dX9_wound_48 ?_
          refine tt_bipush X (by decide) dX9_wound_49 ?_
          refine tt_imul X dX9_wound_51 ?_
          refine tt_iload_n X rfl dX9_wound_52 ?_
          refine tt_iadd X dX9_wound_53 ?_
          refine tt_iaload X (k_7 _ _) (by first | omega | (simp (disch := decide) only [ot_rd, ot_rs, ot_rf, ot_ucd, ot_ucs]; omega)) dX9_wound_54 ?_
          try simp (disch := decide) only [ot_rd, ot_rs, ot_rf, ot_ucd, ot_ucs]
          refine tt_goto X 59 dX9_wound_55 (by decide) ?_
          refine tt_iret X ⟨hr.1, hr.2.1⟩ (by decide) (by decide) dX9_wound_59 ?_
          refine ⟨rfl, rfl, ?_⟩
          first | (rw [if_neg (by omega)]; done) | (rw [if_pos (by omega), if_pos (by omega)]; done) | (rw [if_pos (by omega), if_neg (by omega), if_pos (by omega)]; done) | rw [if_pos (by omega), if_neg (by omega), if_neg (by omega)]
    · refine tt_aload_n X rfl dX9_wound_14 ?_
      refine tt_getr X fX9_12 (k_0 _ _) (by decide) ⟨nofun, nofun⟩ rfl dX9_wound_15 ?_
      refine tt_getr X fX9_151 (k_1 _ _) (by decide) ⟨nofun, nofun⟩ rfl dX9_wound_18 ?_
      refine tt_iload_n X rfl dX9_wound_21 ?_
      refine tt_iaload X (k_8 _ _) (by first | omega | (simp (disch := decide) only [ot_rd, ot_rs, ot_rf, ot_ucd, ot_ucs]; omega)) dX9_wound_22 ?_
      try simp (disch := decide) only [ot_rd, ot_rs, ot_rf, ot_ucd, ot_ucs]
      refine tt_iret X ⟨hr.1, hr.2.1⟩ (by decide) (by decide) dX9_wound_23 ?_
      refine ⟨rfl, rfl, ?_⟩
      first | (rw [if_neg (by omega)]; done) | (rw [if_pos (by omega), if_pos (by omega)]; done) | (rw [if_pos (by omega), if_neg (by omega), if_pos (by omega)]; done) | rw [if_pos (by omega), if_neg (by omega), if_neg (by omega)]
  · refine tt_iconst X dX9_wound_7 ?_
    refine tt_iret X ⟨hr.1, hr.2.1⟩ (by decide) (by decide) dX9_wound_8 ?_
    refine ⟨rfl, rfl, ?_⟩
    first | (rw [if_neg (by omega)]; done) | (rw [if_pos (by omega), if_pos (by omega)]; done) | (rw [if_pos (by omega), if_neg (by omega), if_pos (by omega)]; done) | rw [if_pos (by omega), if_neg (by omega), if_neg (by omega)]
set_option maxRecDepth 100000 in
set_option maxHeartbeats 4000000 in
theorem c_dark (l : Launch) (g : ot_G) (ln : Nat) (ext : ot_L) (μ : ot_M) (x y : Int) (hx : -2147483648 ≤ x ∧ x ≤ 2147483647) (hy : -2147483648 ≤ y ∧ y ≤ 2147483647)(hS : 2 ≤ μ 1 11 ∧ μ 1 11 ≤ 8) : ot_C l g yX9_dark cX9_dark 4 (some .int) 1 0 0 [.inr 0, .inl x, .inl y] (LL ln ext) μ (ot_pi (fun r L2 μ2 => L2 = LL ln ext ∧ μ2 = μ ∧ r = (if 0 ≤ x ∧ x < μ 1 11 ∧ 0 ≤ y ∧ y < μ 1 11 then μ 34 (x + 8 * y) else -1))) := by
  refine ot_enter (by decide) (Nat.le_of_ble_eq_true rfl) ?_
  intro p e s m args below meth c X hr
  refine tt_aload_n X rfl dX9_dark_0 ?_
  refine tt_getr X fX9_12 (k_0 _ _) (by decide) ⟨nofun, nofun⟩ rfl dX9_dark_1 ?_
  refine tt_iload_n X rfl dX9_dark_4 ?_
  refine tt_iload_n X rfl dX9_dark_5 ?_
  refine tt_vi X rfl mX9_108 (c_squareAt l g ln ext _ _ _ (by first | omega | (simp (disch := decide) only [ot_rd, ot_rs, ot_rf, ot_ucd, ot_ucs]; omega)) (by first | omega | (simp (disch := decide) only [ot_rd, ot_rs, ot_rf, ot_ucd, ot_ucs]; omega)) (by first | omega | (simp (disch := decide) only [ot_rd, ot_rs, ot_rf, ot_ucd, ot_ucs]; omega))) (k_1 _ _) ⟨_, rfl, rfl⟩ rfl rfl (Nat.le_of_ble_eq_true rfl) (by decide) (by decide) (by decide) dX9_dark_6 (fun z6 L6 μ6 hp => ?_)
  obtain ⟨rfl, e6, hz6⟩ := hp
  replace e6 := e6.symm
  subst e6
  try simp (disch := decide) only [ot_rd, ot_rs, ot_rf, ot_ucd, ot_ucs] at hz6
  refine tt_istore_n X dX9_dark_9 (by decide) ?_
  refine tt_iload_n X rfl dX9_dark_10 ?_
  refine tt_iconst X dX9_dark_11 ?_
  refine tt_icmp_ne X 19 (by first | omega | (simp (disch := decide) only [ot_rd, ot_rs, ot_rf, ot_ucd, ot_ucs]; omega)) dX9_dark_12 (by decide) (fun b12 => ?_) (fun b12 => ?_)
  · refine tt_aload_n X rfl dX9_dark_19 ?_
    refine tt_getr X fX9_24 (k_0 _ _) (by decide) ⟨nofun, nofun⟩ rfl dX9_dark_20 ?_
    refine tt_getr X fX9_195 (k_33 _ _) (by decide) ⟨nofun, nofun⟩ rfl dX9_dark_23 ?_
    refine tt_iload_n X rfl dX9_dark_26 ?_
    refine tt_iaload X (k_34 _ _) (by first | omega | (simp (disch := decide) only [ot_rd, ot_rs, ot_rf, ot_ucd, ot_ucs]; omega)) dX9_dark_27 ?_
    try simp (disch := decide) only [ot_rd, ot_rs, ot_rf, ot_ucd, ot_ucs]
    refine tt_iret X ⟨hr.1, hr.2.1⟩ (by decide) (by decide) dX9_dark_28 ?_
    refine ⟨rfl, rfl, ?_⟩
    first | (rw [if_neg (by omega)]; done) | (rw [if_pos (by omega)]; rw [if_pos (by omega)] at hz6; rw [hz6])
  · refine tt_iconst X dX9_dark_15 ?_
    refine tt_goto X 28 dX9_dark_16 (by decide) ?_
    refine tt_iret X ⟨hr.1, hr.2.1⟩ (by decide) (by decide) dX9_dark_28 ?_
    refine ⟨rfl, rfl, ?_⟩
    first | (rw [if_neg (by omega)]; done) | (rw [if_pos (by omega)]; rw [if_pos (by omega)] at hz6; rw [hz6])
set_option maxRecDepth 100000 in
set_option maxHeartbeats 4000000 in
theorem c_putBytes (l : Launch) (g : ot_G) (ln : Nat) (ext : ot_L) (μ : ot_M) (v : Int) (hv : -2147483648 ≤ v ∧ v ≤ 2147483647)(hT : 0 ≤ μ 0 10 ∧ μ 0 10 + 4 ≤ 400) : ot_C l g yX9_putBytes cX9_putBytes 3 none 0 0 0 [.inr 0, .inl v] (LL ln ext) μ (ot_pv (fun L2 μ2 => L2 = LL ln ext ∧ μ2 = ot_up (ot_uc μ 58 (fun i => if μ 0 10 ≤ i ∧ i < μ 0 10 + 4 then (v / 2 ^ (24 - 8 * (i - μ 0 10).toNat)) % 256 else μ 58 i)) 0 10 (μ 0 10 + 4))) := by
  refine ot_enter (by decide) (Nat.le_of_ble_eq_true rfl) ?_
  intro p e s m args below meth c X hr
  refine tt_bipush X (by decide) dX9_putBytes_0 ?_
  refine tt_istore_n X dX9_putBytes_2 (by decide) ?_
  refine tt_mem (μ' := ot_up (ot_uc μ 58 (fun i => if μ 0 10 ≤ i ∧ i < μ 0 10 + ((0 : Nat) : Int) then (v / 2 ^ (24 - 8 * (i - μ 0 10).toNat)) % 256 else μ 58 i)) 0 10 (μ 0 10 + ((0 : Nat) : Int))) (by funext k i; simp only [ot_up, ot_uc]; by_cases h1 : k = 0 <;> by_cases h2 : k = 58 <;> simp_all <;> intros <;> omega) ?_
  refine tt_loc [(0, _), (1, _), (2, _)] ⟨rfl, rfl, rfl, trivial⟩ ?_
  refine tt_loop (α := Nat) (fun j => 4 - j) (fun j => j ≤ 4) (fun j => ot_up (ot_uc μ 58 (fun i => if μ 0 10 ≤ i ∧ i < μ 0 10 + j then (v / 2 ^ (24 - 8 * (i - μ 0 10).toNat)) % 256 else μ 58 i)) 0 10 (μ 0 10 + j)) (fun j => [(0, .inr 0), (1, .inl v), (2, .inl (24 - 8 * (j : Int)))]) 0 (by omega) ?_
  intro j hI ih
  try dsimp only at hI ih ⊢
  have e0 : (ot_up (ot_uc μ 58 (fun i => if μ 0 10 ≤ i ∧ i < μ 0 10 + (j : Int) then (v / 2 ^ (24 - 8 * (i - μ 0 10).toNat)) % 256 else μ 58 i)) 0 10 (μ 0 10 + (j : Int))) 0 10 = μ 0 10 + (j : Int) := ot_rs
  refine tt_iload_n X rfl dX9_putBytes_3 ?_
  refine tt_if_lt X 49 (by first | omega | (simp (disch := decide) only [ot_rd, ot_rs, ot_rf, ot_ucd, ot_ucs]; omega)) dX9_putBytes_4 (by decide) (fun b4 => ?_) (fun b4 => ?_)
  · refine tt_vret X ⟨hr.1, hr.2.1⟩ (by decide) (by decide) dX9_putBytes_49 ?_
    refine ⟨rfl, ?_⟩
    rw [show ((4 : Int)) = (j : Int) by omega]
  · refine tt_aload_n X rfl dX9_putBytes_7 ?_
    refine tt_geti X fX9_157 (k_0 _ _) (by decide) (Or.inl rfl) dX9_putBytes_8 ?_
    try simp (disch := decide) only [ot_rd, ot_rs, ot_rf, ot_ucd, ot_ucs]
    refine tt_sipush X (by decide) dX9_putBytes_11 ?_
    refine tt_icmp_ge X 49 (by first | omega | (simp (disch := decide) only [ot_rd, ot_rs, ot_rf, ot_ucd, ot_ucs]; omega)) dX9_putBytes_14 (by decide) (fun b14 => ?_) (fun b14 => ?_)
    · refine tt_vret X ⟨hr.1, hr.2.1⟩ (by decide) (by decide) dX9_putBytes_49 ?_
      refine ⟨rfl, ?_⟩
      rw [show ((4 : Int)) = (j : Int) by omega]
    · try simp (disch := decide) only [ot_rd, ot_rs, ot_rf] at b14
      refine tt_aload_n X rfl dX9_putBytes_17 ?_
      refine tt_getr X fX9_71 (k_0 _ _) (by decide) ⟨nofun, nofun⟩ rfl dX9_putBytes_18 ?_
      refine tt_aload_n X rfl dX9_putBytes_21 ?_
      refine tt_geti X fX9_157 (k_0 _ _) (by decide) (Or.inl rfl) dX9_putBytes_22 ?_
      try simp (disch := decide) only [ot_rd, ot_rs, ot_rf, ot_ucd, ot_ucs]
      refine tt_iload_n X rfl dX9_putBytes_25 ?_
      refine tt_iload_n X rfl dX9_putBytes_26 ?_
      refine tt_iushr X dX9_putBytes_27 ?_
      refine tt_sipush X (by decide) dX9_putBytes_28 ?_
      refine tt_iand X dX9_putBytes_31 ?_
      refine tt_iastore X (k_58 _ _) (by first | omega | (simp (disch := decide) only [ot_rd, ot_rs, ot_rf, ot_ucd, ot_ucs]; omega)) dX9_putBytes_32 ?_
      refine tt_aload_n X rfl dX9_putBytes_33 ?_
      refine tt_dup X dX9_putBytes_34 ?_
      refine tt_geti X fX9_157 (k_0 _ _) (by decide) (Or.inl rfl) dX9_putBytes_35 ?_
      try simp (disch := decide) only [ot_rd, ot_rs, ot_rf, ot_ucd, ot_ucs]
      refine tt_iconst X dX9_putBytes_38 ?_
      refine tt_iadd X dX9_putBytes_39 ?_
      refine tt_puti X fX9_157 kc_9 (k_0 _ _) (by decide) (fun q hq => by cases hq; rfl) rfl dX9_putBytes_40 ?_
      refine tt_iinc X dX9_putBytes_43 rfl (by decide) ?_
      refine tt_goto X 3 dX9_putBytes_46 (by decide) ?_
      refine tt_loc [(0, _), (1, _), (2, _)] ⟨rfl, rfl, rfl, trivial⟩ ?_
      refine tt_mem (μ' := ot_up (ot_uc μ 58 (fun i => if μ 0 10 ≤ i ∧ i < μ 0 10 + ((j + 1 : Nat) : Int) then (v / 2 ^ (24 - 8 * (i - μ 0 10).toNat)) % 256 else μ 58 i)) 0 10 (μ 0 10 + ((j + 1 : Nat) : Int))) ?_ ?_
      · funext k i
        have e := bb_byte_ushr v (24 - 8 * j) (by omega) hv
        rw [show ((24 - 8 * j : Nat) : Int) = 24 - 8 * (j : Int) by omega] at e
        simp only [ot_up, ot_uc, e]
        by_cases h1 : k = 0
        · subst h1; simp; intros; omega
        · by_cases h2 : k = 58
          · subst h2
            simp only [if_neg h1, if_true, reduceIte]
            split
            · subst_vars; rw [if_pos (by omega)]; rw [show 24 - 8 * (μ 0 10 + (j : Int) - μ 0 10).toNat = 24 - 8 * j by omega]
            · split <;> split <;> first | rfl | omega
          · simp [h1, h2]
      have h := ih (j + 1) (by omega) (by omega)
      rw [show (24 - 8 * ((j + 1 : Nat) : Int)) = 24 - 8 * (j : Int) + -8 by omega] at h
      exact h

set_option maxRecDepth 100000 in
set_option maxHeartbeats 1000000 in
theorem c_numberOf (l : Launch) (g : ot_G) (ln : Nat) (ext : ot_L) (μ : ot_M) (a b : Int) (ha : 0 ≤ a ∧ a < 24) (hb : 0 ≤ b ∧ b < 24) : ot_C l g yX0_numberOf cX0_numberOf 3 (some .int) 1 0 0 [.inl a, .inl b] (LL ln ext) μ (ot_pi (fun r L2 μ2 => L2 = LL ln ext ∧ μ2 = μ ∧ r = chN a b)) := by
  refine ot_enter (by decide) (Nat.le_of_ble_eq_true rfl) ?_
  intro p e s m args below meth c X hr
  have hT := tri_le (h := max a b) (by omega) (by omega)
  refine tt_iload_n X rfl dX0_numberOf_0 ?_
  refine tt_iload_n X rfl dX0_numberOf_1 ?_
  refine tt_max X rfl mX0_28 (by omega) (Nat.le_of_ble_eq_true rfl) (by decide) (by decide) dX0_numberOf_2 ?_
  refine tt_istore_n X dX0_numberOf_5 (by decide) ?_
  refine tt_iload_n X rfl dX0_numberOf_6 ?_
  refine tt_iload_n X rfl dX0_numberOf_7 ?_
  refine tt_iconst X dX0_numberOf_8 ?_
  refine tt_isub X dX0_numberOf_9 ?_
  refine tt_imul X dX0_numberOf_10 ?_
  refine tt_iconst X dX0_numberOf_11 ?_
  refine tt_idiv X (by omega) dX0_numberOf_12 ?_
  refine tt_top (bo_div (by omega) (by omega)) ?_
  refine tt_iload_n X rfl dX0_numberOf_13 ?_
  refine tt_iload_n X rfl dX0_numberOf_14 ?_
  refine tt_min X rfl mX0_34 (by omega) (Nat.le_of_ble_eq_true rfl) (by decide) (by decide) dX0_numberOf_15 ?_
  refine tt_iadd X dX0_numberOf_18 ?_
  refine tt_iret X ⟨hr.1, hr.2.1⟩ (by decide) (by decide) dX0_numberOf_19 ?_
  exact ⟨rfl, rfl, rfl⟩
set_option maxRecDepth 100000 in
set_option maxHeartbeats 1000000 in
theorem c_sizeOf (l : Launch) (g : ot_G) (ln : Nat) (ext : ot_L) (μ : ot_M) (h : Int) (hh : 0 ≤ h ∧ h < 276) : ot_C l g yX0_sizeOf cX0_sizeOf 2 (some .int) 0 0 0 [.inr 37, .inl h] (LL ln ext) μ (ot_pi (fun r L2 μ2 => L2 = LL ln ext ∧ μ2 = μ ∧ r = μ 39 h)) := by
  refine ot_enter (by decide) (Nat.le_of_ble_eq_true rfl) ?_
  intro p e s m args below meth c X hr
  refine tt_aload_n X rfl dX0_sizeOf_0 ?_
  refine tt_getr X fX0_15 (k_37 _ _) (by decide) ⟨nofun, nofun⟩ rfl dX0_sizeOf_1 ?_
  refine tt_iload_n X rfl dX0_sizeOf_4 ?_
  refine tt_iaload X (k_39 _ _) (by omega) dX0_sizeOf_5 ?_
  refine tt_iret X ⟨hr.1, hr.2.1⟩ (by decide) (by decide) dX0_sizeOf_6 ?_
  exact ⟨rfl, rfl, rfl⟩
set_option maxRecDepth 100000 in
set_option maxHeartbeats 1000000 in
theorem c_squareOf (l : Launch) (g : ot_G) (ln : Nat) (ext : ot_L) (μ : ot_M) (h c0 : Int) (hh : 0 ≤ h ∧ h < 276) (hc : 0 ≤ c0 ∧ c0 < 16) (hv : 0 ≤ μ 38 (h * 16 + c0) ∧ μ 38 (h * 16 + c0) < 1024) : ot_C l g yX0_squareOf cX0_squareOf 3 (some .int) 0 0 0 [.inr 37, .inl h, .inl c0] (LL ln ext) μ (ot_pi (fun r L2 μ2 => L2 = LL ln ext ∧ μ2 = μ ∧ r = μ 38 (h * 16 + c0) / 16)) := by
  refine ot_enter (by decide) (Nat.le_of_ble_eq_true rfl) ?_
  intro p e s m args below meth c X hr
  refine tt_aload_n X rfl dX0_squareOf_0 ?_
  refine tt_getr X fX0_11 (k_37 _ _) (by decide) ⟨nofun, nofun⟩ rfl dX0_squareOf_1 ?_
  refine tt_iload_n X rfl dX0_squareOf_4 ?_
  refine tt_bipush X (by decide) dX0_squareOf_5 ?_
  refine tt_imul X dX0_squareOf_7 ?_
  refine tt_iload_n X rfl dX0_squareOf_8 ?_
  refine tt_iadd X dX0_squareOf_9 ?_
  refine tt_iaload X (k_38 _ _) (by omega) dX0_squareOf_10 ?_
  refine tt_bipush X (by decide) dX0_squareOf_11 ?_
  refine tt_idiv X (by omega) dX0_squareOf_13 ?_
  refine tt_iret X ⟨hr.1, hr.2.1⟩ (by decide) (by decide) dX0_squareOf_14 ?_
  exact ⟨rfl, rfl, bo_div (by omega) (by omega)⟩
set_option maxRecDepth 100000 in
set_option maxHeartbeats 1000000 in
theorem c_middlesOf (l : Launch) (g : ot_G) (ln : Nat) (ext : ot_L) (μ : ot_M) (h c0 : Int) (hh : 0 ≤ h ∧ h < 276) (hc : 0 ≤ c0 ∧ c0 < 16) (hv : 0 ≤ μ 38 (h * 16 + c0) ∧ μ 38 (h * 16 + c0) < 1024) : ot_C l g yX0_middlesOf cX0_middlesOf 3 (some .int) 0 0 0 [.inr 37, .inl h, .inl c0] (LL ln ext) μ (ot_pi (fun r L2 μ2 => L2 = LL ln ext ∧ μ2 = μ ∧ r = μ 38 (h * 16 + c0) % 16)) := by
  refine ot_enter (by decide) (Nat.le_of_ble_eq_true rfl) ?_
  intro p e s m args below meth c X hr
  refine tt_aload_n X rfl dX0_middlesOf_0 ?_
  refine tt_getr X fX0_11 (k_37 _ _) (by decide) ⟨nofun, nofun⟩ rfl dX0_middlesOf_1 ?_
  refine tt_iload_n X rfl dX0_middlesOf_4 ?_
  refine tt_bipush X (by decide) dX0_middlesOf_5 ?_
  refine tt_imul X dX0_middlesOf_7 ?_
  refine tt_iload_n X rfl dX0_middlesOf_8 ?_
  refine tt_iadd X dX0_middlesOf_9 ?_
  refine tt_iaload X (k_38 _ _) (by omega) dX0_middlesOf_10 ?_
  refine tt_bipush X (by decide) dX0_middlesOf_11 ?_
  refine tt_irem X (by omega) dX0_middlesOf_13 ?_
  refine tt_iret X ⟨hr.1, hr.2.1⟩ (by decide) (by decide) dX0_middlesOf_14 ?_
  exact ⟨rfl, rfl, bo_rem (by omega) (by omega)⟩
set_option maxRecDepth 100000 in
set_option maxHeartbeats 1000000 in
theorem c_middle (l : Launch) (g : ot_G) (ln : Nat) (ext : ot_L) (μ : ot_M) (u v i n : Int) (hu : 0 ≤ u ∧ u ≤ μ 1 11) (hv : 0 ≤ v ∧ v ≤ μ 1 11) (hi : 0 ≤ i ∧ i < n) (hn : n ≤ 64) (hS : 2 ≤ μ 1 11 ∧ μ 1 11 ≤ 8) : ot_C l g yX0_middle cX0_middle 6 (some .int) 1 0 0 [.inr 37, .inl u, .inl v, .inl i, .inl n] (LL ln ext) μ (ot_pi (fun r L2 μ2 => L2 = LL ln ext ∧ μ2 = μ ∧ r = mdl (μ 1 11) u v n i)) := by
  refine ot_enter (by decide) (Nat.le_of_ble_eq_true rfl) ?_
  intro p e s m args below meth c X hr
  have hn1 := mdl_num hu hv hi
  have hn3 : μ 1 11 * (2 * n) ≤ 8 * (2 * 64) := Int.mul_le_mul hS.2 (by omega) (by omega) (by omega)
  have hd0 := Int.ediv_nonneg hn1.1 (show 0 ≤ 2 * n by omega)
  have hd1 := Int.ediv_le_self (2 * n) hn1.1
  refine tt_iload_n X rfl dX0_middle_0 ?_
  refine tt_iconst X dX0_middle_1 ?_
  refine tt_imul X dX0_middle_2 ?_
  refine tt_iload X rfl dX0_middle_3 ?_
  refine tt_imul X dX0_middle_5 ?_
  refine tt_iload_n X rfl dX0_middle_6 ?_
  refine tt_iload_n X rfl dX0_middle_7 ?_
  refine tt_isub X dX0_middle_8 ?_
  refine tt_iconst X dX0_middle_9 ?_
  refine tt_iload_n X rfl dX0_middle_10 ?_
  refine tt_imul X dX0_middle_11 ?_
  refine tt_iconst X dX0_middle_12 ?_
  refine tt_iadd X dX0_middle_13 ?_
  refine tt_imul X dX0_middle_14 ?_
  refine tt_iadd X dX0_middle_15 ?_
  refine tt_iconst X dX0_middle_16 ?_
  refine tt_iload X rfl dX0_middle_17 ?_
  refine tt_imul X dX0_middle_19 ?_
  refine tt_si X rfl mX0_59 (c_floorDiv l g ln ext _ _ _ (by first | omega | (simp (disch := decide) only [ot_rd, ot_rs, ot_rf, ot_ucd, ot_ucs]; omega)) (by first | omega | (simp (disch := decide) only [ot_rd, ot_rs, ot_rf, ot_ucd, ot_ucs]; omega))) rfl rfl (Nat.le_of_ble_eq_true rfl) (by decide) (by decide) (by decide) dX0_middle_20 (fun z20 L20 μ20 hp => ?_)
  obtain ⟨rfl, e20, hz20⟩ := hp
  replace e20 := e20.symm
  subst e20
  try simp (disch := decide) only [ot_rd, ot_rs, ot_rf, ot_ucd, ot_ucs] at hz20
  refine tt_top hz20 ?_
  refine tt_istore X dX0_middle_23 (by decide) ?_
  refine tt_iload X rfl dX0_middle_25 ?_
  refine tt_aload_n X rfl dX0_middle_27 ?_
  refine tt_getr X fX0_18 (k_37 _ _) (by decide) ⟨nofun, nofun⟩ rfl dX0_middle_28 ?_
  refine tt_geti X fX0_62 (k_1 _ _) (by decide) (Or.inl rfl) dX0_middle_31 ?_
  refine tt_iconst X dX0_middle_34 ?_
  refine tt_isub X dX0_middle_35 ?_
  refine tt_min X rfl mX0_34 (by omega) (Nat.le_of_ble_eq_true rfl) (by decide) (by decide) dX0_middle_36 ?_
  refine tt_iret X ⟨hr.1, hr.2.1⟩ (by decide) (by decide) dX0_middle_39 ?_
  exact ⟨rfl, rfl, rfl⟩
set_option maxRecDepth 100000 in
set_option maxHeartbeats 1000000 in
theorem c_measure (l : Launch) (g : ot_G) (ln : Nat) (ext : ot_L) (μ : ot_M) (h a b : Int) (hG : gPin (μ 1 11) (μ 1 12) (μ 2) (μ 3)) (ha : 0 ≤ a) (hab : a < b) (hb : b < μ 1 12) (hh : h = chN a b) : ot_C l g yX0_measure cX0_measure 11 none 2 0 0 [.inr 37, .inl h, .inl a, .inl b] (LL ln ext) μ (ot_pv (fun L2 μ2 => L2 = LL ln ext ∧ ∃ f m, μ2 = ot_up (ot_uc μ 38 f) 39 h m ∧ (∀ j, ¬ (h * 16 ≤ j ∧ j < h * 16 + 16) → f j = μ 38 j) ∧ gRow (μ 1 11) (μ 2 a) (μ 3 a) (μ 2 b) (μ 3 b) f (h * 16) m)) := by
  refine ot_enter (by decide) (Nat.le_of_ble_eq_true rfl) ?_
  intro p e s m args below meth c X hr
  have h1 := gPin_at hG (a := a) (by omega) (by omega)
  have h2 := gPin_at hG (a := b) (by omega) (by omega)
  have hS := hG.1
  have hNn := hG.2.1
  have hLn := lenP_pos hG (a := a) (b := b) (by omega) (by omega) (by omega) (by omega) (by omega)
  have hS2 : 1 ≤ μ 1 11 ∧ μ 1 11 ≤ 8 := by omega
  have hch := chN_in (a := a) (b := b) (by omega) (by omega) (by omega)
  rw [← hh] at hch
  refine tt_bipush X (by decide) dX0_measure_0 ?_
  refine tt_aload_n X rfl dX0_measure_2 ?_
  refine tt_getr X fX0_18 (k_37 _ _) (by decide) ⟨nofun, nofun⟩ rfl dX0_measure_3 ?_
  refine tt_iload_n X rfl dX0_measure_6 ?_
  refine tt_iload_n X rfl dX0_measure_7 ?_
  refine tt_vi X rfl mX0_44 (c_lengthOf l g ln ext _ _ _ (by first | omega | (simp (disch := decide) only [ot_rd, ot_rs, ot_rf, ot_ucd, ot_ucs]; omega)) (by first | omega | (simp (disch := decide) only [ot_rd, ot_rs, ot_rf, ot_ucd, ot_ucs]; omega)) (by first | omega | (simp (disch := decide) only [ot_rd, ot_rs, ot_rf, ot_ucd, ot_ucs]; omega))) (k_1 _ _) ⟨_, rfl, rfl⟩ rfl rfl (Nat.le_of_ble_eq_true rfl) (by decide) (by decide) (by decide) dX0_measure_8 (fun z8 L8 μ8 hp => ?_)
  obtain ⟨rfl, e8, hz8⟩ := hp
  replace e8 := e8.symm
  subst e8
  try simp (disch := decide) only [ot_rd, ot_rs, ot_rf, ot_ucd, ot_ucs] at hz8
  refine tt_imul X dX0_measure_11 ?_
  refine tt_top (show 8 * z8 = 8 * lenP (μ 2 a) (μ 3 a) (μ 2 b) (μ 3 b) by rw [hz8]; rfl) ?_
  refine tt_istore X dX0_measure_12 (by decide) ?_
  refine tt_iload_n X rfl dX0_measure_14 ?_
  refine tt_bipush X (by decide) dX0_measure_15 ?_
  refine tt_imul X dX0_measure_17 ?_
  refine tt_istore X dX0_measure_18 (by decide) ?_
  refine tt_iconst X dX0_measure_20 ?_
  refine tt_istore X dX0_measure_21 (by decide) ?_
  refine tt_iconst X dX0_measure_23 ?_
  refine tt_istore X dX0_measure_24 (by decide) ?_
  refine tt_iconst X dX0_measure_26 ?_
  refine tt_istore X dX0_measure_27 (by decide) ?_
  refine tt_mem (μ' := ot_uc μ 38 (μ 38)) ot_uc_self.symm ?_
  refine tt_loc [(0, _), (1, _), (2, _), (3, _), (4, _), (5, _), (6, _), (7, _), (8, _)] ⟨rfl, rfl, rfl, rfl, rfl, rfl, rfl, rfl, rfl, trivial⟩ ?_
  refine tt_loop (α := Int × Int × Int × (Int → Int)) (fun ((i, m0, q, f)) => (8 * lenP (μ 2 a) (μ 3 a) (μ 2 b) (μ 3 b) - i).toNat) (fun ((i, m0, q, f)) => mInv (μ 1 11) (μ 2 a) (μ 3 a) (μ 2 b) (μ 3 b) (h * 16) i m0 q f ∧ ∀ j, ¬ (h * 16 ≤ j ∧ j < h * 16 + 16) → f j = μ 38 j) (fun ((i, m0, q, f)) => ot_uc μ 38 f) (fun ((i, m0, q, f)) => [(0, .inr 37), (1, .inl h), (2, .inl a), (3, .inl b), (4, .inl (8 * lenP (μ 2 a) (μ 3 a) (μ 2 b) (μ 3 b))), (5, .inl (h * 16)), (6, .inl m0), (7, .inl q), (8, .inl i)]) (0, 0, -1, μ 38) ⟨mInv_first _ _ _ _ _ _ _, fun _ _ => rfl⟩ ?_
  intro a hI ih
  obtain ⟨i, m0, q, f⟩ := a
  try dsimp only at hI ih ⊢
  replace hI : mInv (μ 1 11) (μ 2 a) (μ 3 a) (μ 2 b) (μ 3 b) (h * 16) i m0 q f ∧ ∀ j, ¬ (h * 16 ≤ j ∧ j < h * 16 + 16) → f j = μ 38 j := hI
  have hI1 := hI.1.1
  have hIm := mInv_lt hS2 h1.2.1 h1.2.2 h2.2.1 h2.2.2 hI.1
  refine tt_iload X rfl dX0_measure_29 ?_
  refine tt_iload X rfl dX0_measure_31 ?_
  refine tt_icmp_ge X 162 (by first | omega | (simp (disch := decide) only [ot_rd, ot_rs, ot_rf, ot_ucd, ot_ucs]; omega)) dX0_measure_33 (by decide) (fun b33 => ?_) (fun b33 => ?_)
  · refine tt_aload_n X rfl dX0_measure_162 ?_
    refine tt_getr X fX0_15 (k_37 _ _) (by decide) ⟨nofun, nofun⟩ rfl dX0_measure_163 ?_
    refine tt_iload_n X rfl dX0_measure_166 ?_
    refine tt_iload X rfl dX0_measure_167 ?_
    refine tt_iastore X (k_39 _ _) (by first | omega | (simp (disch := decide) only [ot_rd, ot_rs, ot_rf, ot_ucd, ot_ucs]; omega)) dX0_measure_169 ?_
    refine tt_vret X ⟨hr.1, hr.2.1⟩ (by decide) (by decide) dX0_measure_170 ?_
    refine ⟨rfl, f, m0, rfl, hI.2, ?_⟩
    rw [show i = 8 * lenP (μ 2 a) (μ 3 a) (μ 2 b) (μ 3 b) by omega] at hI
    exact mInv_end hS2 h1.2.1 h1.2.2 h2.2.1 h2.2.2 hLn.1 hI.1
  · have hi : i < 8 * lenP (μ 2 a) (μ 3 a) (μ 2 b) (μ 3 b) := by omega
    refine tt_aload_n X rfl dX0_measure_36 ?_
    refine tt_aload_n X rfl dX0_measure_37 ?_
    refine tt_getr X fX0_18 (k_37 _ _) (by decide) ⟨nofun, nofun⟩ rfl dX0_measure_38 ?_
    refine tt_getr X fX0_49 (k_1 _ _) (by decide) ⟨nofun, nofun⟩ rfl dX0_measure_41 ?_
    refine tt_iload_n X rfl dX0_measure_44 ?_
    refine tt_iaload X (k_2 _ _) (by first | omega | (simp (disch := decide) only [ot_rd, ot_rs, ot_rf, ot_ucd, ot_ucs]; omega)) dX0_measure_45 ?_
    try simp (disch := decide) only [ot_rd, ot_rs, ot_rf, ot_ucd, ot_ucs]
    refine tt_aload_n X rfl dX0_measure_46 ?_
    refine tt_getr X fX0_18 (k_37 _ _) (by decide) ⟨nofun, nofun⟩ rfl dX0_measure_47 ?_
    refine tt_getr X fX0_49 (k_1 _ _) (by decide) ⟨nofun, nofun⟩ rfl dX0_measure_50 ?_
    refine tt_iload_n X rfl dX0_measure_53 ?_
    refine tt_iaload X (k_2 _ _) (by first | omega | (simp (disch := decide) only [ot_rd, ot_rs, ot_rf, ot_ucd, ot_ucs]; omega)) dX0_measure_54 ?_
    try simp (disch := decide) only [ot_rd, ot_rs, ot_rf, ot_ucd, ot_ucs]
    refine tt_iload X rfl dX0_measure_55 ?_
    refine tt_iload X rfl dX0_measure_57 ?_
    refine tt_vi X rfl mX0_52 (c_middle l g ln ext _ _ _ _ _ (by first | omega | (simp (disch := decide) only [ot_ucd, ot_ucs, ot_rd, ot_rs]; omega)) (by first | omega | (simp (disch := decide) only [ot_ucd, ot_ucs, ot_rd, ot_rs]; omega)) (by first | omega | (simp (disch := decide) only [ot_ucd, ot_ucs, ot_rd, ot_rs]; omega)) (by first | omega | (simp (disch := decide) only [ot_ucd, ot_ucs, ot_rd, ot_rs]; omega)) (by first | omega | (simp (disch := decide) only [ot_ucd, ot_ucs, ot_rd, ot_rs]; omega))) (k_37 _ _) ⟨_, rfl, rfl⟩ rfl rfl (Nat.le_of_ble_eq_true rfl) (by decide) (by decide) (by decide) dX0_measure_59 (fun z59 L59 μ59 hp => ?_)
    obtain ⟨rfl, e59, hz59⟩ := hp
    replace e59 := e59.symm
    subst e59
    try simp (disch := decide) only [ot_rd, ot_rs, ot_rf, ot_ucd, ot_ucs] at hz59
    refine tt_istore X dX0_measure_62 (by decide) ?_
    refine tt_aload_n X rfl dX0_measure_64 ?_
    refine tt_aload_n X rfl dX0_measure_65 ?_
    refine tt_getr X fX0_18 (k_37 _ _) (by decide) ⟨nofun, nofun⟩ rfl dX0_measure_66 ?_
    refine tt_getr X fX0_56 (k_1 _ _) (by decide) ⟨nofun, nofun⟩ rfl dX0_measure_69 ?_
    refine tt_iload_n X rfl dX0_measure_72 ?_
    refine tt_iaload X (k_3 _ _) (by first | omega | (simp (disch := decide) only [ot_rd, ot_rs, ot_rf, ot_ucd, ot_ucs]; omega)) dX0_measure_73 ?_
    try simp (disch := decide) only [ot_rd, ot_rs, ot_rf, ot_ucd, ot_ucs]
    refine tt_aload_n X rfl dX0_measure_74 ?_
    refine tt_getr X fX0_18 (k_37 _ _) (by decide) ⟨nofun, nofun⟩ rfl dX0_measure_75 ?_
    refine tt_getr X fX0_56 (k_1 _ _) (by decide) ⟨nofun, nofun⟩ rfl dX0_measure_78 ?_
    refine tt_iload_n X rfl dX0_measure_81 ?_
    refine tt_iaload X (k_3 _ _) (by first | omega | (simp (disch := decide) only [ot_rd, ot_rs, ot_rf, ot_ucd, ot_ucs]; omega)) dX0_measure_82 ?_
    try simp (disch := decide) only [ot_rd, ot_rs, ot_rf, ot_ucd, ot_ucs]
    refine tt_iload X rfl dX0_measure_83 ?_
    refine tt_iload X rfl dX0_measure_85 ?_
    refine tt_vi X rfl mX0_52 (c_middle l g ln ext _ _ _ _ _ (by first | omega | (simp (disch := decide) only [ot_ucd, ot_ucs, ot_rd, ot_rs]; omega)) (by first | omega | (simp (disch := decide) only [ot_ucd, ot_ucs, ot_rd, ot_rs]; omega)) (by first | omega | (simp (disch := decide) only [ot_ucd, ot_ucs, ot_rd, ot_rs]; omega)) (by first | omega | (simp (disch := decide) only [ot_ucd, ot_ucs, ot_rd, ot_rs]; omega)) (by first | omega | (simp (disch := decide) only [ot_ucd, ot_ucs, ot_rd, ot_rs]; omega))) (k_37 _ _) ⟨_, rfl, rfl⟩ rfl rfl (Nat.le_of_ble_eq_true rfl) (by decide) (by decide) (by decide) dX0_measure_87 (fun z87 L87 μ87 hp => ?_)
    obtain ⟨rfl, e87, hz87⟩ := hp
    replace e87 := e87.symm
    subst e87
    try simp (disch := decide) only [ot_rd, ot_rs, ot_rf, ot_ucd, ot_ucs] at hz87
    refine tt_istore X dX0_measure_90 (by decide) ?_
    have hq : sqm (μ 1 11) (μ 2 a) (μ 3 a) (μ 2 b) (μ 3 b) i = z59 + 8 * z87 := by unfold sqm; rw [hz59, hz87]
    have hn4 := sqm_in hS2.1 h1.2.1 h1.2.2 h2.2.1 h2.2.2 (i := i) (by omega)
    rw [← hz59, ← hz87] at hn4
    refine tt_iload X rfl dX0_measure_92 ?_
    refine tt_bipush X (by decide) dX0_measure_94 ?_
    refine tt_iload X rfl dX0_measure_96 ?_
    refine tt_imul X dX0_measure_98 ?_
    refine tt_iadd X dX0_measure_99 ?_
    refine tt_iload X rfl dX0_measure_100 ?_
    refine tt_icmp_eq X 140 (by first | omega | (simp (disch := decide) only [ot_rd, ot_rs, ot_rf, ot_ucd, ot_ucs]; omega)) dX0_measure_102 (by decide) (fun b102 => ?_) (fun b102 => ?_)
    · have hm1 : z59 + 8 * z87 = q → 1 ≤ m0 := fun w => (mInv_same hS2 h1.2.1 h1.2.2 h2.2.1 h2.2.2 hLn.1 hI.1 hi (by rw [hq]; exact w)).1
      refine tt_aload_n X rfl dX0_measure_140 ?_
      refine tt_getr X fX0_11 (k_37 _ _) (by decide) ⟨nofun, nofun⟩ rfl dX0_measure_141 ?_
      refine tt_iload X rfl dX0_measure_144 ?_
      refine tt_iload X rfl dX0_measure_146 ?_
      refine tt_iadd X dX0_measure_148 ?_
      refine tt_iconst X dX0_measure_149 ?_
      refine tt_isub X dX0_measure_150 ?_
      refine tt_dup2 X dX0_measure_151 ?_
      refine tt_iaload X (k_38 _ _) (by first | omega | (simp (disch := decide) only [ot_rd, ot_rs, ot_rf, ot_ucd, ot_ucs]; omega)) dX0_measure_152 ?_
      try simp (disch := decide) only [ot_rd, ot_rs, ot_rf, ot_ucd, ot_ucs]
      refine tt_iconst X dX0_measure_153 ?_
      refine tt_iadd X dX0_measure_154 ?_
      refine tt_iastore X (k_38 _ _) (by first | omega | (simp (disch := decide) only [ot_rd, ot_rs, ot_rf, ot_ucd, ot_ucs]; omega)) dX0_measure_155 ?_
      refine tt_iinc X dX0_measure_156 rfl (by decide) ?_
      refine tt_goto X 29 dX0_measure_159 (by decide) ?_
      refine tt_loc [(0, _), (1, _), (2, _), (3, _), (4, _), (5, _), (6, _), (7, _), (8, _)] ⟨rfl, rfl, rfl, rfl, rfl, rfl, rfl, rfl, rfl, trivial⟩ ?_
      have hst := mInv_same hS2 h1.2.1 h1.2.2 h2.2.1 h2.2.2 hLn.1 hI.1 hi (by rw [hq]; omega)
      refine tt_mem (μ' := ot_uc μ 38 (up1 f (h * 16 + (m0 - 1)) (f (h * 16 + (m0 - 1)) + 1))) ?_ ?_
      · rw [ot_uc_up, show h * 16 + m0 - 1 = h * 16 + (m0 - 1) by omega]
        rfl
      exact ih (i + 1, m0, q, up1 f (h * 16 + (m0 - 1)) (f (h * 16 + (m0 - 1)) + 1)) ⟨hst.2, fun j hj => (up1_n (by omega)).trans (hI.2 j hj)⟩ (by show (8 * lenP (μ 2 a) (μ 3 a) (μ 2 b) (μ 3 b) - (i + 1)).toNat < (8 * lenP (μ 2 a) (μ 3 a) (μ 2 b) (μ 3 b) - i).toNat; omega)
    · refine tt_iload X rfl dX0_measure_105 ?_
      refine tt_bipush X (by decide) dX0_measure_107 ?_
      refine tt_icmp_ge X 140 (by first | omega | (simp (disch := decide) only [ot_rd, ot_rs, ot_rf, ot_ucd, ot_ucs]; omega)) dX0_measure_109 (by decide) (fun b109 => ?_) (fun b109 => ?_)
      · exact absurd b109 (by omega)
      · refine tt_iload X rfl dX0_measure_112 ?_
        refine tt_bipush X (by decide) dX0_measure_114 ?_
        refine tt_iload X rfl dX0_measure_116 ?_
        refine tt_imul X dX0_measure_118 ?_
        refine tt_iadd X dX0_measure_119 ?_
        refine tt_istore X dX0_measure_120 (by decide) ?_
        refine tt_aload_n X rfl dX0_measure_122 ?_
        refine tt_getr X fX0_11 (k_37 _ _) (by decide) ⟨nofun, nofun⟩ rfl dX0_measure_123 ?_
        refine tt_iload X rfl dX0_measure_126 ?_
        refine tt_iload X rfl dX0_measure_128 ?_
        refine tt_iadd X dX0_measure_130 ?_
        refine tt_iload X rfl dX0_measure_131 ?_
        refine tt_bipush X (by decide) dX0_measure_133 ?_
        refine tt_imul X dX0_measure_135 ?_
        refine tt_iastore X (k_38 _ _) (by first | omega | (simp (disch := decide) only [ot_rd, ot_rs, ot_rf, ot_ucd, ot_ucs]; omega)) dX0_measure_136 ?_
        refine tt_iinc X dX0_measure_137 rfl (by decide) ?_
        have hm1 : z59 + 8 * z87 = q → 1 ≤ m0 := fun w => (mInv_same hS2 h1.2.1 h1.2.2 h2.2.1 h2.2.2 hLn.1 hI.1 hi (by rw [hq]; exact w)).1
        refine tt_aload_n X rfl dX0_measure_140 ?_
        refine tt_getr X fX0_11 (k_37 _ _) (by decide) ⟨nofun, nofun⟩ rfl dX0_measure_141 ?_
        refine tt_iload X rfl dX0_measure_144 ?_
        refine tt_iload X rfl dX0_measure_146 ?_
        refine tt_iadd X dX0_measure_148 ?_
        refine tt_iconst X dX0_measure_149 ?_
        refine tt_isub X dX0_measure_150 ?_
        refine tt_dup2 X dX0_measure_151 ?_
        refine tt_iaload X (k_38 _ _) (by first | omega | (simp (disch := decide) only [ot_rd, ot_rs, ot_rf, ot_ucd, ot_ucs]; omega)) dX0_measure_152 ?_
        try simp (disch := decide) only [ot_rd, ot_rs, ot_rf, ot_ucd, ot_ucs]
        refine tt_iconst X dX0_measure_153 ?_
        refine tt_iadd X dX0_measure_154 ?_
        refine tt_iastore X (k_38 _ _) (by first | omega | (simp (disch := decide) only [ot_rd, ot_rs, ot_rf, ot_ucd, ot_ucs]; omega)) dX0_measure_155 ?_
        refine tt_iinc X dX0_measure_156 rfl (by decide) ?_
        refine tt_goto X 29 dX0_measure_159 (by decide) ?_
        refine tt_loc [(0, _), (1, _), (2, _), (3, _), (4, _), (5, _), (6, _), (7, _), (8, _)] ⟨rfl, rfl, rfl, rfl, rfl, rfl, rfl, rfl, rfl, trivial⟩ ?_
        refine tt_mem (μ' := ot_uc μ 38 (up1 f (h * 16 + m0) (sqm (μ 1 11) (μ 2 a) (μ 3 a) (μ 2 b) (μ 3 b) i * 16 + 1))) ?_ ?_
        · rw [ot_uc_up, ot_uc_up]
          refine ot_uc_eq (fun j => ?_)
          rw [hq, show h * 16 + (m0 + 1) - 1 = h * 16 + m0 by omega]
          by_cases hj : j = h * 16 + m0
          · subst hj; simp [ot_ucs, up1]
          · simp [hj, up1]
        have hst := mInv_new hS2 h1.2.1 h1.2.2 h2.2.1 h2.2.2 hI.1 hi (by rw [hq]; omega)
        rw [hq] at hst ⊢
        exact ih (i + 1, m0 + 1, z59 + 8 * z87, up1 f (h * 16 + m0) ((z59 + 8 * z87) * 16 + 1)) ⟨hst, fun j hj => (up1_n (by omega)).trans (hI.2 j hj)⟩ (by show (8 * lenP (μ 2 a) (μ 3 a) (μ 2 b) (μ 3 b) - (i + 1)).toNat < (8 * lenP (μ 2 a) (μ 3 a) (μ 2 b) (μ 3 b) - i).toNat; omega)

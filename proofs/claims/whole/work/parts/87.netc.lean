set_option maxRecDepth 100000 in
set_option maxHeartbeats 1000000 in
theorem c_bitCount (l : Launch) (g : ot_G) (ln : Nat) (ext : ot_L) (μ : ot_M) (n : Nat) (hn : n < 16777216) : ot_C l g yJ6_bitCount_0f7a4 cJ6_bitCount_0f7a4 1 (some .int) 0 0 0 [.inl (n : Int)] (LL ln ext) μ (ot_pi (fun r L2 μ2 => L2 = LL ln ext ∧ μ2 = μ ∧ r = (cnt n 24 : Int))) := by
  refine ot_enterF (by decide +kernel) (Nat.le_of_ble_eq_true rfl) ?_
  intro p e s m args below meth c X hr
  refine tt_iload_n X rfl dJ6_bitCount_0f7a4_0 ?_
  refine tt_iload_n X rfl dJ6_bitCount_0f7a4_1 ?_
  refine tt_iconst X dJ6_bitCount_0f7a4_2 ?_
  refine tt_iushr X dJ6_bitCount_0f7a4_3 ?_
  refine tt_ldcw X (n := 1431655765) (ot_mem 856 (by decide +kernel) (by decide +kernel)) dJ6_bitCount_0f7a4_4 ?_
  refine tt_iand X dJ6_bitCount_0f7a4_7 ?_
  refine tt_isub X dJ6_bitCount_0f7a4_8 ?_
  refine tt_istore_n X dJ6_bitCount_0f7a4_9 (by decide) ?_
  refine tt_iload_n X rfl dJ6_bitCount_0f7a4_10 ?_
  refine tt_ldcw X (n := 858993459) (ot_mem 857 (by decide +kernel) (by decide +kernel)) dJ6_bitCount_0f7a4_11 ?_
  refine tt_iand X dJ6_bitCount_0f7a4_14 ?_
  refine tt_iload_n X rfl dJ6_bitCount_0f7a4_15 ?_
  refine tt_iconst X dJ6_bitCount_0f7a4_16 ?_
  refine tt_iushr X dJ6_bitCount_0f7a4_17 ?_
  refine tt_ldcw X (n := 858993459) (ot_mem 857 (by decide +kernel) (by decide +kernel)) dJ6_bitCount_0f7a4_18 ?_
  refine tt_iand X dJ6_bitCount_0f7a4_21 ?_
  refine tt_iadd X dJ6_bitCount_0f7a4_22 ?_
  refine tt_istore_n X dJ6_bitCount_0f7a4_23 (by decide) ?_
  refine tt_iload_n X rfl dJ6_bitCount_0f7a4_24 ?_
  refine tt_iload_n X rfl dJ6_bitCount_0f7a4_25 ?_
  refine tt_iconst X dJ6_bitCount_0f7a4_26 ?_
  refine tt_iushr X dJ6_bitCount_0f7a4_27 ?_
  refine tt_iadd X dJ6_bitCount_0f7a4_28 ?_
  refine tt_ldcw X (n := 252645135) (ot_mem 858 (by decide +kernel) (by decide +kernel)) dJ6_bitCount_0f7a4_29 ?_
  refine tt_iand X dJ6_bitCount_0f7a4_32 ?_
  refine tt_istore_n X dJ6_bitCount_0f7a4_33 (by decide) ?_
  refine tt_iload_n X rfl dJ6_bitCount_0f7a4_34 ?_
  refine tt_iload_n X rfl dJ6_bitCount_0f7a4_35 ?_
  refine tt_bipush X (by decide) dJ6_bitCount_0f7a4_36 ?_
  refine tt_iushr X dJ6_bitCount_0f7a4_38 ?_
  refine tt_iadd X dJ6_bitCount_0f7a4_39 ?_
  refine tt_istore_n X dJ6_bitCount_0f7a4_40 (by decide) ?_
  refine tt_iload_n X rfl dJ6_bitCount_0f7a4_41 ?_
  refine tt_iload_n X rfl dJ6_bitCount_0f7a4_42 ?_
  refine tt_bipush X (by decide) dJ6_bitCount_0f7a4_43 ?_
  refine tt_iushr X dJ6_bitCount_0f7a4_45 ?_
  refine tt_iadd X dJ6_bitCount_0f7a4_46 ?_
  refine tt_istore_n X dJ6_bitCount_0f7a4_47 (by decide) ?_
  refine tt_iload_n X rfl dJ6_bitCount_0f7a4_48 ?_
  refine tt_bipush X (by decide) dJ6_bitCount_0f7a4_49 ?_
  refine tt_iand X dJ6_bitCount_0f7a4_51 ?_
  refine tt_iret X ⟨hr.1, hr.2.1⟩ (by decide) (by decide) dJ6_bitCount_0f7a4_52 ?_
  exact ⟨rfl, rfl, bcI hn _ _ _ _ _ rfl rfl rfl rfl rfl⟩
set_option maxRecDepth 100000 in
set_option maxHeartbeats 1000000 in
theorem c_isOdd (l : Launch) (g : ot_G) (ln : Nat) (ext : ot_L) (μ : ot_M) (q : Nat) (hq : q < 24) (J : Nat → Nat) (hJ : gJ (μ 42) J) (hlt : ∀ u, J u < 16777216)  : ot_C l g yX5_isOdd cX5_isOdd 2 (some .boolean) 1 0 0 [.inr 41, .inl (q : Int)] (LL ln ext) μ (ot_pi (fun r L2 μ2 => L2 = LL ln ext ∧ μ2 = μ ∧ r = (if cnt (J q) 24 % 2 = 1 then 1 else 0))) := by
  refine ot_enter (by decide) (Nat.le_of_ble_eq_true rfl) ?_
  intro p e s m args below meth c X hr
  refine tt_aload_n X rfl dX5_isOdd_0 ?_
  refine tt_getr X fX5_9 (k_41 _ _) (by decide) ⟨nofun, nofun⟩ rfl dX5_isOdd_1 ?_
  refine tt_iload_n X rfl dX5_isOdd_4 ?_
  refine tt_iaload X (k_42 _ _) (by omega) dX5_isOdd_5 ?_
  refine tt_top (hJ q hq) ?_
  refine tt_si X rfl mX5_69 (c_bitCount l g ln ext _ (J q) (hlt q)) rfl rfl (Nat.le_of_ble_eq_true rfl) (by decide) (by decide) (by decide) dX5_isOdd_6 (fun z6 L6 μ6 hp => ?_)
  obtain ⟨rfl, e6, hz6⟩ := hp
  replace e6 := e6.symm
  subst e6
  try simp (disch := decide) only [ot_rd, ot_rs, ot_rf, ot_ucd, ot_ucs] at hz6
  refine tt_iconst X dX5_isOdd_9 ?_
  refine tt_iand X dX5_isOdd_10 ?_
  refine tt_top (y := ((cnt (J q) 24 % 2 : Nat) : Int)) (by rw [hz6, show (1 : Int) = ((1 : Nat) : Int) from rfl, bo_and _ _ (by have := cnt_le (J q) 24; omega), Nat.and_one_is_mod]) ?_
  refine tt_iconst X dX5_isOdd_11 ?_
  refine tt_icmp_ne X 19 (by omega) dX5_isOdd_12 (by decide) (fun b12 => ?_) (fun b12 => ?_)
  · refine tt_iconst X dX5_isOdd_19 ?_
    refine tt_zret X ⟨hr.1, hr.2.1⟩ (by omega) (by decide) (by decide) dX5_isOdd_20 ?_
    refine ⟨rfl, rfl, ?_⟩
    first | rw [if_pos (by omega)] | rw [if_neg (by omega)]
  · refine tt_iconst X dX5_isOdd_15 ?_
    refine tt_goto X 20 dX5_isOdd_16 (by decide) ?_
    refine tt_zret X ⟨hr.1, hr.2.1⟩ (by omega) (by decide) (by decide) dX5_isOdd_20 ?_
    refine ⟨rfl, rfl, ?_⟩
    first | rw [if_pos (by omega)] | rw [if_neg (by omega)]
set_option maxRecDepth 100000 in
set_option maxHeartbeats 1000000 in
theorem c_netFlip (l : Launch) (g : ot_G) (ln : Nat) (ext : ot_L) (μ : ot_M) (a b : Nat) (ha : a < 24) (hb : b < 24) (hab : a ≠ b) (J : Nat → Nat) (hJ : gJ (μ 42) J) (hlt : ∀ u, J u < 16777216)  : ot_C l g yX5_flip cX5_flip 3 none 0 0 0 [.inr 41, .inl (a : Int), .inl (b : Int)] (LL ln ext) μ (ot_pv (fun L2 μ2 => L2 = LL ln ext ∧ ∃ F, μ2 = ot_uc μ 42 F ∧ gJ F (flp J a b))) := by
  refine ot_enter (by decide) (Nat.le_of_ble_eq_true rfl) ?_
  intro p e s m args below meth c X hr
  refine tt_aload_n X rfl dX5_flip_0 ?_
  refine tt_getr X fX5_9 (k_41 _ _) (by decide) ⟨nofun, nofun⟩ rfl dX5_flip_1 ?_
  refine tt_iload_n X rfl dX5_flip_4 ?_
  refine tt_dup2 X dX5_flip_5 ?_
  refine tt_iaload X (k_42 _ _) (by omega) dX5_flip_6 ?_
  refine tt_iconst X dX5_flip_7 ?_
  refine tt_iload_n X rfl dX5_flip_8 ?_
  refine tt_ishl X dX5_flip_9 ?_
  refine tt_ixor X dX5_flip_10 ?_
  refine tt_iastore X (k_42 _ _) (by omega) dX5_flip_11 ?_
  refine tt_aload_n X rfl dX5_flip_12 ?_
  refine tt_getr X fX5_9 (k_41 _ _) (by decide) ⟨nofun, nofun⟩ rfl dX5_flip_13 ?_
  refine tt_iload_n X rfl dX5_flip_16 ?_
  refine tt_dup2 X dX5_flip_17 ?_
  refine tt_iaload X (k_42 _ _) (by first | omega | (simp (disch := decide) only [ot_rd, ot_rs, ot_rf, ot_ucd, ot_ucs]; omega)) dX5_flip_18 ?_
  try simp (disch := decide) only [ot_rd, ot_rs, ot_rf, ot_ucd, ot_ucs]
  refine tt_iconst X dX5_flip_19 ?_
  refine tt_iload_n X rfl dX5_flip_20 ?_
  refine tt_ishl X dX5_flip_21 ?_
  refine tt_ixor X dX5_flip_22 ?_
  refine tt_iastore X (k_42 _ _) (by first | omega | (simp (disch := decide) only [ot_rd, ot_rs, ot_rf, ot_ucd, ot_ucs]; omega)) dX5_flip_23 ?_
  refine tt_vret X ⟨hr.1, hr.2.1⟩ (by decide) (by decide) dX5_flip_24 ?_
  refine ⟨rfl, (fun i => if i = (b : Int) then ot_xor (μ 42 (b : Int)) (ot_shl 1 (a : Int)) else if i = (a : Int) then ot_xor (μ 42 (a : Int)) (ot_shl 1 (b : Int)) else μ 42 i), ?_, ?_⟩
  · funext q i
    have hab2 : (b : Int) ≠ (a : Int) := by omega
    by_cases w : q = 42
    · subst w
      by_cases w1 : i = (b : Int)
      · subst w1; simp [ot_uc, ot_up, hab2]
      · by_cases w2 : i = (a : Int)
        · subst w2; simp [ot_uc, ot_up, w1]
        · simp [ot_uc, ot_up, w1, w2]
    · simp [ot_uc, ot_up, w]
  · intro p hp
    have ea := hJ a ha
    have eb := hJ b hb
    have la := hlt a
    have lb := hlt b
    have pa := nt_p ha
    have pb := nt_p hb
    show (if (p : Int) = (b : Int) then _ else if (p : Int) = (a : Int) then _ else _) = _
    unfold flp
    by_cases w1 : p = b
    · rw [if_pos (by omega), if_pos w1, eb, nt_shl ha, bo_xor _ _ (by omega) (by omega)]
    · rw [if_neg (by omega), if_neg w1]
      by_cases w2 : p = a
      · rw [if_pos (by omega), if_pos w2, ea, nt_shl hb, bo_xor _ _ (by omega) (by omega)]
      · rw [if_neg (by omega), if_neg w2]
        exact hJ p hp
set_option maxRecDepth 100000 in
set_option maxHeartbeats 1000000 in
theorem c_partOf (l : Launch) (g : ot_G) (ln : Nat) (ext : ot_L) (μ : ot_M) (q : Nat) (hq : q < 24) (J : Nat → Nat) (hJ : gJ (μ 42) J) (hlt : ∀ u, J u < 16777216)  : ot_C l g yX5_partOf cX5_partOf 6 (some .int) 0 0 0 [.inr 41, .inl (q : Int)] (LL ln ext) μ (ot_pi (fun r L2 μ2 => L2 = LL ln ext ∧ μ2 = μ ∧ r = (prt J q : Int))) := by
  refine ot_enter (by decide) (Nat.le_of_ble_eq_true rfl) ?_
  intro p e s m args below meth c X hr
  have hq2 := nt_p hq
  refine tt_iconst X dX5_partOf_0 ?_
  refine tt_iload_n X rfl dX5_partOf_1 ?_
  refine tt_ishl X dX5_partOf_2 ?_
  refine tt_top (nt_shl hq) ?_
  refine tt_istore_n X dX5_partOf_3 (by decide) ?_
  refine tt_iconst X dX5_partOf_4 ?_
  refine tt_istore_n X dX5_partOf_5 (by decide) ?_
  refine tt_loc [(0, _), (1, _), (2, _), (3, _)] ⟨rfl, rfl, rfl, rfl, trivial⟩ ?_
  refine tt_loop (α := Nat × Nat) (fun ((r, h)) => 24 - r) (fun ((r, h)) => r ≤ 24 ∧ h = clN J (2 ^ q) r) (fun ((r, h)) => μ) (fun ((r, h)) => [(0, .inr 41), (1, .inl (q : Int)), (2, .inl (h : Int)), (3, .inl (r : Int))]) (0, 2 ^ q) ⟨Nat.zero_le _, rfl⟩ ?_
  intro a hI ih
  obtain ⟨r, h⟩ := a
  try dsimp only at hI ih ⊢
  replace hI : r ≤ 24 ∧ h = clN J (2 ^ q) r := hI
  have hr24 := hI.1
  have hh : h < 16777216 := by rw [hI.2]; exact clN_lt hlt hq2 r
  refine tt_iload_n X rfl dX5_partOf_6 ?_
  refine tt_bipush X (by decide) dX5_partOf_7 ?_
  refine tt_icmp_ge X 71 (by first | omega | (simp (disch := decide) only [ot_rd, ot_rs, ot_rf, ot_ucd, ot_ucs]; omega)) dX5_partOf_9 (by decide) (fun b9 => ?_) (fun b9 => ?_)
  · refine tt_iload_n X rfl dX5_partOf_71 ?_
    refine tt_iret X ⟨hr.1, hr.2.1⟩ (by decide) (by decide) dX5_partOf_72 ?_
    refine ⟨rfl, rfl, ?_⟩
    first
      | (have hre : r = 24 := by omega
         rw [hI.2, hre]; rfl)
      | (have hi : i = 24 := by omega
         have hx : clN J (2 ^ q) (r + 1) = clN J (2 ^ q) r := by
           show exN J (clN J (2 ^ q) r) 24 = _
           rw [← hI.2]
           have := hI2.2
           rw [hi] at this
           omega
         have := clN_stay hx (24 - r)
         rw [show r + (24 - r) = 24 by omega, ← hI.2] at this
         show (h : Int) = (clN J (2 ^ q) 24 : Int)
         rw [this])
  · refine tt_iload_n X rfl dX5_partOf_12 ?_
    refine tt_istore X dX5_partOf_13 (by decide) ?_
    refine tt_iconst X dX5_partOf_15 ?_
    refine tt_istore X dX5_partOf_16 (by decide) ?_
    refine tt_loc [(0, _), (1, _), (2, _), (3, _), (4, _), (5, _)] ⟨rfl, rfl, rfl, rfl, rfl, rfl, trivial⟩ ?_
    refine tt_loop (α := Nat × Nat) (fun ((i, w)) => 24 - i) (fun ((i, w)) => i ≤ 24 ∧ w = exN J h i) (fun ((i, w)) => μ) (fun ((i, w)) => [(0, .inr 41), (1, .inl (q : Int)), (2, .inl (h : Int)), (3, .inl (r : Int)), (4, .inl (w : Int)), (5, .inl (i : Int))]) (0, h) ⟨Nat.zero_le _, rfl⟩ ?_
    intro a hI2 ih2
    obtain ⟨i, w⟩ := a
    try dsimp only at hI2 ih2 ⊢
    replace hI2 : i ≤ 24 ∧ w = exN J h i := hI2
    have hi24 := hI2.1
    have hw : w < 16777216 := by rw [hI2.2]; exact exN_lt hlt hh i
    refine tt_iload X rfl dX5_partOf_18 ?_
    refine tt_bipush X (by decide) dX5_partOf_20 ?_
    refine tt_icmp_ge X 53 (by first | omega | (simp (disch := decide) only [ot_rd, ot_rs, ot_rf, ot_ucd, ot_ucs]; omega)) dX5_partOf_22 (by decide) (fun b22 => ?_) (fun b22 => ?_)
    · refine tt_iload X rfl dX5_partOf_53 ?_
      refine tt_iload_n X rfl dX5_partOf_55 ?_
      refine tt_icmp_ne X 62 (by first | omega | (simp (disch := decide) only [ot_rd, ot_rs, ot_rf, ot_ucd, ot_ucs]; omega)) dX5_partOf_56 (by decide) (fun b56 => ?_) (fun b56 => ?_)
      · refine tt_iload X rfl dX5_partOf_62 ?_
        refine tt_istore_n X dX5_partOf_64 (by decide) ?_
        refine tt_iinc X dX5_partOf_65 rfl (by decide) ?_
        refine tt_goto X 6 dX5_partOf_68 (by decide) ?_
        refine tt_loc [(0, _), (1, _), (2, _), (3, _)] ⟨rfl, rfl, rfl, rfl, trivial⟩ ?_
        have hi24 : i = 24 := by omega
        exact ih (r + 1, w) ⟨by show r + 1 ≤ 24; omega, by show w = exN J (clN J (2 ^ q) r) 24; rw [← hI.2, hI2.2, hi24]⟩ (by show 24 - (r + 1) < 24 - r; omega)
      · refine tt_goto X 71 dX5_partOf_59 (by decide) ?_
        refine tt_iload_n X rfl dX5_partOf_71 ?_
        refine tt_iret X ⟨hr.1, hr.2.1⟩ (by decide) (by decide) dX5_partOf_72 ?_
        refine ⟨rfl, rfl, ?_⟩
        first
          | (have hre : r = 24 := by omega
             rw [hI.2, hre]; rfl)
          | (have hi : i = 24 := by omega
             have hx : clN J (2 ^ q) (r + 1) = clN J (2 ^ q) r := by
               show exN J (clN J (2 ^ q) r) 24 = _
               rw [← hI.2]
               have := hI2.2
               rw [hi] at this
               omega
             have := clN_stay hx (24 - r)
             rw [show r + (24 - r) = 24 by omega, ← hI.2] at this
             show (h : Int) = (clN J (2 ^ q) 24 : Int)
             rw [this])
    · refine tt_iload_n X rfl dX5_partOf_25 ?_
      refine tt_iload X rfl dX5_partOf_26 ?_
      refine tt_ishr X dX5_partOf_28 ?_
      refine tt_iconst X dX5_partOf_29 ?_
      refine tt_iand X dX5_partOf_30 ?_
      refine tt_top (nt_test (m := h) (i := i) (by omega) (by omega)) ?_
      refine tt_iconst X dX5_partOf_31 ?_
      refine tt_icmp_ne X 47 (by split <;> omega) dX5_partOf_32 (by decide) (fun b32 => ?_) (fun b32 => ?_)
      · refine tt_iinc X dX5_partOf_47 rfl (by decide) ?_
        refine tt_goto X 18 dX5_partOf_50 (by decide) ?_
        refine tt_loc [(0, _), (1, _), (2, _), (3, _), (4, _), (5, _)] ⟨rfl, rfl, rfl, rfl, rfl, rfl, trivial⟩ ?_
        first
          | (have hb := tb_one (m := h) (i := i) (by omega)
             exact ih2 (i + 1, w ||| J i) ⟨by show i + 1 ≤ 24; omega, by show w ||| J i = if h.testBit i then exN J h i ||| J i else exN J h i; rw [if_pos hb, hI2.2]⟩ (by show 24 - (i + 1) < 24 - i; omega))
          | (have hb := tb_nil (m := h) (i := i) (by omega)
             exact ih2 (i + 1, w) ⟨by show i + 1 ≤ 24; omega, by show w = if h.testBit i then exN J h i ||| J i else exN J h i; rw [hb, hI2.2]; rfl⟩ (by show 24 - (i + 1) < 24 - i; omega))
      · refine tt_iload X rfl dX5_partOf_35 ?_
        refine tt_aload_n X rfl dX5_partOf_37 ?_
        refine tt_getr X fX5_9 (k_41 _ _) (by decide) ⟨nofun, nofun⟩ rfl dX5_partOf_38 ?_
        refine tt_iload X rfl dX5_partOf_41 ?_
        refine tt_iaload X (k_42 _ _) (by first | omega | (simp (disch := decide) only [ot_rd, ot_rs, ot_rf, ot_ucd, ot_ucs]; omega)) dX5_partOf_43 ?_
        try simp (disch := decide) only [ot_rd, ot_rs, ot_rf, ot_ucd, ot_ucs]
        refine tt_ior X dX5_partOf_44 ?_
        refine tt_top (y := ((w ||| J i : Nat) : Int)) (by rw [hJ i (by omega), nt_or hw (hlt i)]) ?_
        refine tt_istore X dX5_partOf_45 (by decide) ?_
        refine tt_iinc X dX5_partOf_47 rfl (by decide) ?_
        refine tt_goto X 18 dX5_partOf_50 (by decide) ?_
        refine tt_loc [(0, _), (1, _), (2, _), (3, _), (4, _), (5, _)] ⟨rfl, rfl, rfl, rfl, rfl, rfl, trivial⟩ ?_
        first
          | (have hb := tb_one (m := h) (i := i) (by omega)
             exact ih2 (i + 1, w ||| J i) ⟨by show i + 1 ≤ 24; omega, by show w ||| J i = if h.testBit i then exN J h i ||| J i else exN J h i; rw [if_pos hb, hI2.2]⟩ (by show 24 - (i + 1) < 24 - i; omega))
          | (have hb := tb_nil (m := h) (i := i) (by omega)
             exact ih2 (i + 1, w) ⟨by show i + 1 ≤ 24; omega, by show w = if h.testBit i then exN J h i ||| J i else exN J h i; rw [hb, hI2.2]; rfl⟩ (by show 24 - (i + 1) < 24 - i; omega))
def hgB (J : Nat → Nat) (a : Nat) : Bool := (List.range 24).all (fun u => decide (J u = 0) || (prt J a).testBit u)
theorem hgB_iff {J : Nat → Nat} {a : Nat} : hgB J a = true ↔ ∀ u, u < 24 → J u ≠ 0 → (prt J a).testBit u = true := by
  unfold hgB
  rw [List.all_eq_true]
  constructor
  · intro h u hu hn
    have := h u (List.mem_range.mpr hu)
    rw [Bool.or_eq_true, decide_eq_true_eq] at this
    exact this.resolve_left hn
  · intro h u hu
    rw [Bool.or_eq_true, decide_eq_true_eq]
    by_cases w : J u = 0
    · exact .inl w
    · exact .inr (h u (List.mem_range.mp hu) w)
theorem note_odd {od i j : Nat} {z : Int} (h : od.testBit i = true ↔ cnt j 24 % 2 = 1) (hz : z = if cnt j 24 % 2 = 1 then 1 else 0) (hb : ¬ z = 0) : od.testBit i = true := by
  refine h.mpr ?_
  apply Classical.byContradiction
  intro w
  rw [if_neg w] at hz
  exact hb hz
theorem note_even {od i j : Nat} {z : Int} (h : od.testBit i = true ↔ cnt j 24 % 2 = 1) (hz : z = if cnt j 24 % 2 = 1 then 1 else 0) (hb : z = 0) : od.testBit i = false := by
  rw [Bool.eq_false_iff]
  intro w
  rw [if_pos (h.mp w)] at hz
  omega
theorem note_no {pt od i : Nat} {x y : Int} (hi : i < 24) (hy : y = x + (cnt (pt &&& od) i : Int)) (hx : x + (cnt (pt &&& od) 24 : Int) ≤ 24) (hb : pt.testBit i = true) (ho : od.testBit i = true) : y < 24 := by
  have := cnt_at (m := pt &&& od) (i := i) (j := 24) (n := 24) hi (by omega) (by rw [Nat.testBit_and, hb, ho]; rfl)
  omega
set_option maxRecDepth 100000 in
set_option maxHeartbeats 1000000 in
theorem c_restHangs (l : Launch) (g : ot_G) (ln : Nat) (ext : ot_L) (μ : ot_M) (q : Nat) (hq : q < 24) (J : Nat → Nat) (hJ : gJ (μ 42) J) (hlt : ∀ u, J u < 16777216)  : ot_C l g yX5_restHangsAt cX5_restHangsAt 4 (some .boolean) 1 0 0 [.inr 41, .inl (q : Int)] (LL ln ext) μ (ot_pi (fun r L2 μ2 => L2 = LL ln ext ∧ μ2 = μ ∧ r = (if hgB (J) q then 1 else 0))) := by
  refine ot_enter (by decide) (Nat.le_of_ble_eq_true rfl) ?_
  intro p e s m args below meth c X hr
  have hpl : prt J q < 16777216 := prt_lt hlt hq
  refine tt_aload_n X rfl dX5_restHangsAt_0 ?_
  refine tt_iload_n X rfl dX5_restHangsAt_1 ?_
  refine tt_vi X rfl mX5_56 (c_partOf l g ln ext _ q (by omega) J hJ hlt) (k_41 _ _) ⟨_, rfl, rfl⟩ rfl rfl (Nat.le_of_ble_eq_true rfl) (by decide) (by decide) (by decide) dX5_restHangsAt_2 (fun z2 L2 μ2 hp => ?_)
  obtain ⟨rfl, e2, hz2⟩ := hp
  replace e2 := e2.symm
  subst e2
  try simp (disch := decide) only [ot_rd, ot_rs, ot_rf, ot_ucd, ot_ucs] at hz2
  refine tt_top hz2 ?_
  refine tt_istore_n X dX5_restHangsAt_5 (by decide) ?_
  refine tt_iconst X dX5_restHangsAt_6 ?_
  refine tt_istore_n X dX5_restHangsAt_7 (by decide) ?_
  refine tt_loc [(0, _), (1, _), (2, _), (3, _)] ⟨rfl, rfl, rfl, rfl, trivial⟩ ?_
  refine tt_loop (α := Nat) (fun i => 24 - i) (fun i => i ≤ 24 ∧ ∀ u, u < i → J u ≠ 0 → (prt J q).testBit u = true) (fun i => μ) (fun i => [(0, .inr 41), (1, .inl (q : Int)), (2, .inl (prt J q : Int)), (3, .inl (i : Int))]) 0 ⟨Nat.zero_le _, fun u hu => absurd hu (Nat.not_lt_zero u)⟩ ?_
  intro i hI ih
  try dsimp only at hI ih ⊢
  have hi := hI.1
  refine tt_iload_n X rfl dX5_restHangsAt_8 ?_
  refine tt_bipush X (by decide) dX5_restHangsAt_9 ?_
  refine tt_icmp_ge X 39 (by first | omega | (simp (disch := decide) only [ot_rd, ot_rs, ot_rf, ot_ucd, ot_ucs]; omega)) dX5_restHangsAt_11 (by decide) (fun b11 => ?_) (fun b11 => ?_)
  · refine tt_iconst X dX5_restHangsAt_39 ?_
    refine tt_zret X ⟨hr.1, hr.2.1⟩ (by omega) (by decide) (by decide) dX5_restHangsAt_40 ?_
    refine ⟨rfl, rfl, ?_⟩
    rw [if_pos]
    refine hgB_iff.mpr (fun u hu => ?_)
    exact hI.2 u (by omega)
  · refine tt_aload_n X rfl dX5_restHangsAt_14 ?_
    refine tt_getr X fX5_9 (k_41 _ _) (by decide) ⟨nofun, nofun⟩ rfl dX5_restHangsAt_15 ?_
    refine tt_iload_n X rfl dX5_restHangsAt_18 ?_
    refine tt_iaload X (k_42 _ _) (by first | omega | (simp (disch := decide) only [ot_rd, ot_rs, ot_rf, ot_ucd, ot_ucs]; omega)) dX5_restHangsAt_19 ?_
    try simp (disch := decide) only [ot_rd, ot_rs, ot_rf, ot_ucd, ot_ucs]
    refine tt_top (hJ i (by omega)) ?_
    refine tt_if_eq X 33 (by have := hlt i; omega) dX5_restHangsAt_20 (by decide) (fun b20 => ?_) (fun b20 => ?_)
    · refine tt_iinc X dX5_restHangsAt_33 rfl (by decide) ?_
      refine tt_goto X 8 dX5_restHangsAt_36 (by decide) ?_
      refine tt_loc [(0, _), (1, _), (2, _), (3, _)] ⟨rfl, rfl, rfl, rfl, trivial⟩ ?_
      refine ih (i + 1) ⟨by omega, fun u hu hu2 => ?_⟩ (by omega)
      by_cases w : u = i
      · subst w
        first
          | exact absurd (show J u = 0 by omega) hu2
          | (cases hb : (prt J q).testBit u
             · rw [hb] at b28; simp at b28
             · rfl)
      · exact hI.2 u (by omega) hu2
    · refine tt_iload_n X rfl dX5_restHangsAt_23 ?_
      refine tt_iload_n X rfl dX5_restHangsAt_24 ?_
      refine tt_ishr X dX5_restHangsAt_25 ?_
      refine tt_iconst X dX5_restHangsAt_26 ?_
      refine tt_iand X dX5_restHangsAt_27 ?_
      refine tt_top (nt_test (m := prt J q) (i := i) (by omega) (by omega)) ?_
      refine tt_if_ne X 33 (by split <;> omega) dX5_restHangsAt_28 (by decide) (fun b28 => ?_) (fun b28 => ?_)
      · refine tt_iinc X dX5_restHangsAt_33 rfl (by decide) ?_
        refine tt_goto X 8 dX5_restHangsAt_36 (by decide) ?_
        refine tt_loc [(0, _), (1, _), (2, _), (3, _)] ⟨rfl, rfl, rfl, rfl, trivial⟩ ?_
        refine ih (i + 1) ⟨by omega, fun u hu hu2 => ?_⟩ (by omega)
        by_cases w : u = i
        · subst w
          first
            | exact absurd (show J u = 0 by omega) hu2
            | (cases hb : (prt J q).testBit u
               · rw [hb] at b28; simp at b28
               · rfl)
        · exact hI.2 u (by omega) hu2
      · refine tt_iconst X dX5_restHangsAt_31 ?_
        refine tt_zret X ⟨hr.1, hr.2.1⟩ (by omega) (by decide) (by decide) dX5_restHangsAt_32 ?_
        refine ⟨rfl, rfl, ?_⟩
        rw [if_neg]
        intro w
        have := hgB_iff.mp w i (by omega) (by omega)
        rw [this] at b28
        simp at b28
set_option maxRecDepth 100000 in
set_option maxHeartbeats 1000000 in
theorem c_noteOdds (l : Launch) (g : ot_G) (ln : Nat) (ext : ot_L) (μ : ot_M) (pt : Nat) (hpt : pt < 16777216) (J : Nat → Nat) (hJ : gJ (μ 42) J) (hlt : ∀ u, J u < 16777216) (od : Nat) (hod : ∀ u, u < 24 → (od.testBit u = true ↔ cnt (J u) 24 % 2 = 1)) (hroom : 0 ≤ μ 41 5 ∧ μ 41 5 + (cnt (pt &&& od) 24 : Int) ≤ 24)  : ot_C l g yX5_noteOdds cX5_noteOdds 4 (some .int) 2 0 0 [.inr 41, .inl (pt : Int)] (LL ln ext) μ (ot_pi (fun r L2 μ2 => L2 = LL ln ext ∧ r = (cnt (pt &&& od) 24 : Int) ∧ ∃ G, μ2 = ot_up (ot_uc μ 43 G) 41 5 (μ 41 5 + (cnt (pt &&& od) 24 : Int)) ∧ ∀ u, u < 24 → (pt &&& od).testBit u = true → G (μ 41 5 + (cnt (pt &&& od) u : Int)) = (u : Int))) := by
  refine ot_enter (by decide) (Nat.le_of_ble_eq_true rfl) ?_
  intro p e s m args below meth c X hr
  refine tt_aload_n X rfl dX5_noteOdds_0 ?_
  refine tt_geti X fX5_50 (k_41 _ _) (by decide) (Or.inl rfl) dX5_noteOdds_1 ?_
  refine tt_istore_n X dX5_noteOdds_4 (by decide) ?_
  refine tt_iconst X dX5_noteOdds_5 ?_
  refine tt_istore_n X dX5_noteOdds_6 (by decide) ?_
  refine tt_mem (μ' := ot_up (ot_uc μ 43 (μ 43)) 41 5 (μ 41 5)) (by rw [ot_uc_self]; funext q c1; by_cases w1 : q = 41 <;> by_cases w2 : c1 = 5 <;> simp [ot_up, w1, w2]) ?_
  refine tt_loc [(0, _), (1, _), (2, _), (3, _)] ⟨rfl, rfl, rfl, rfl, trivial⟩ ?_
  refine tt_loop (α := Nat × Int × (Int → Int)) (fun ((i, y, G)) => 24 - i) (fun ((i, y, G)) => i ≤ 24 ∧ y = μ 41 5 + (cnt (pt &&& od) i : Int) ∧ ∀ u, u < i → (pt &&& od).testBit u = true → G (μ 41 5 + (cnt (pt &&& od) u : Int)) = (u : Int)) (fun ((i, y, G)) => ot_up (ot_uc μ 43 G) 41 5 y) (fun ((i, y, G)) => [(0, .inr 41), (1, .inl (pt : Int)), (2, .inl (μ 41 5)), (3, .inl (i : Int))]) (0, μ 41 5, μ 43) ⟨Nat.zero_le _, by show μ 41 5 = μ 41 5 + ((0 : Nat) : Int); omega, fun u hu => absurd hu (Nat.not_lt_zero u)⟩ ?_
  intro a hI ih
  obtain ⟨i, y, G⟩ := a
  try dsimp only at hI ih ⊢
  replace hI : i ≤ 24 ∧ y = μ 41 5 + (cnt (pt &&& od) i : Int) ∧ ∀ u, u < i → (pt &&& od).testBit u = true → G (μ 41 5 + (cnt (pt &&& od) u : Int)) = (u : Int) := hI
  have hi24 := hI.1
  have hcm := cnt_mn (m := pt &&& od) 24 hi24
  have hy0 := hI.2.1
  refine tt_iload_n X rfl dX5_noteOdds_7 ?_
  refine tt_bipush X (by decide) dX5_noteOdds_8 ?_
  refine tt_icmp_ge X 65 (by first | omega | (simp (disch := decide) only [ot_rd, ot_rs, ot_rf, ot_ucd, ot_ucs]; omega)) dX5_noteOdds_10 (by decide) (fun b10 => ?_) (fun b10 => ?_)
  · refine tt_aload_n X rfl dX5_noteOdds_65 ?_
    refine tt_geti X fX5_50 (k_41 _ _) (by decide) (Or.inl rfl) dX5_noteOdds_66 ?_
    try simp (disch := decide) only [ot_rd, ot_rs, ot_rf, ot_ucd, ot_ucs]
    refine tt_iload_n X rfl dX5_noteOdds_69 ?_
    refine tt_isub X dX5_noteOdds_70 ?_
    refine tt_iret X ⟨hr.1, hr.2.1⟩ (by decide) (by decide) dX5_noteOdds_71 ?_
    have hi : i = 24 := by omega
    have hy := hI.2.1
    have hg := hI.2.2
    rw [hi] at hy hg
    refine ⟨rfl, by omega, G, by rw [hy], hg⟩
  · refine tt_iload_n X rfl dX5_noteOdds_13 ?_
    refine tt_iload_n X rfl dX5_noteOdds_14 ?_
    refine tt_ishr X dX5_noteOdds_15 ?_
    refine tt_iconst X dX5_noteOdds_16 ?_
    refine tt_iand X dX5_noteOdds_17 ?_
    refine tt_top (nt_test (m := pt) (i := i) (by omega) (by omega)) ?_
    refine tt_iconst X dX5_noteOdds_18 ?_
    refine tt_icmp_ne X 59 (by split <;> omega) dX5_noteOdds_19 (by decide) (fun b19 => ?_) (fun b19 => ?_)
    · refine tt_iinc X dX5_noteOdds_59 rfl (by decide) ?_
      refine tt_goto X 7 dX5_noteOdds_62 (by decide) ?_
      refine tt_loc [(0, _), (1, _), (2, _), (3, _)] ⟨rfl, rfl, rfl, rfl, trivial⟩ ?_
      have hy := hI.2.1
      have hcs : cnt (pt &&& od) (i + 1) = cnt (pt &&& od) i + (if (pt &&& od).testBit i then 1 else 0) := rfl
      first
        | (have hb : (pt &&& od).testBit i = false := by
             rw [Nat.testBit_and]
             first
               | (rw [tb_nil (m := pt) (i := i) (by omega)]; rfl)
               | (have ho : od.testBit i = false := note_even (hod i (by omega)) hz24 (by omega)
                  rw [ho, Bool.and_false])
           rw [hb] at hcs
           simp only [Bool.false_eq_true, if_false] at hcs
           refine ih (i + 1, y, G) ⟨by show i + 1 ≤ 24; omega, by show y = μ 41 5 + (cnt (pt &&& od) (i + 1) : Int); omega, fun u hu hu2 => ?_⟩ (by show 24 - (i + 1) < 24 - i; omega)
           by_cases w : u = i
           · subst w; rw [hb] at hu2; cases hu2
           · exact hI.2.2 u (by omega) hu2)
        | (have hb0 := tb_one (m := pt) (i := i) (by omega)
           have ho : od.testBit i = true := note_odd (hod i (by omega)) hz24 (by omega)
           have hb : (pt &&& od).testBit i = true := by rw [Nat.testBit_and, hb0, ho]; rfl
           rw [hb] at hcs
           simp only [if_true] at hcs
           refine tt_mem (μ' := ot_up (ot_uc μ 43 (up1 G y (i : Int))) 41 5 (y + 1)) ?_ ?_
           · funext q c1
             by_cases w1 : q = 41
             · subst w1; by_cases w2 : c1 = 5 <;> simp [ot_up, ot_uc, w2]
             · by_cases w2 : q = 43
               · subst w2; simp [ot_up, ot_uc, up1]
               · simp [ot_up, ot_uc, w1, w2]
           refine ih (i + 1, y + 1, up1 G y (i : Int)) ⟨by show i + 1 ≤ 24; omega, by show y + 1 = μ 41 5 + (cnt (pt &&& od) (i + 1) : Int); omega, fun u hu hu2 => ?_⟩ (by show 24 - (i + 1) < 24 - i; omega)
           show up1 G y (i : Int) (μ 41 5 + (cnt (pt &&& od) u : Int)) = (u : Int)
           by_cases w : u = i
           · subst w; rw [← hy, up1_s]
           · have := cnt_at (m := pt &&& od) (i := u) (j := i) (n := i) (by omega) (by omega) hu2
             rw [up1_n (by omega)]
             exact hI.2.2 u (by omega) hu2)
    · refine tt_aload_n X rfl dX5_noteOdds_22 ?_
      refine tt_iload_n X rfl dX5_noteOdds_23 ?_
      refine tt_vi X rfl mX5_74 (c_isOdd l g ln ext _ i (by omega) J (by intro u hu; simp (disch := decide) only [ot_ucd, ot_ucs, ot_rd, ot_rs, ot_rf]; exact hJ u hu) hlt) (k_41 _ _) ⟨_, rfl, rfl⟩ rfl rfl (Nat.le_of_ble_eq_true rfl) (by decide) (by decide) (by decide) dX5_noteOdds_24 (fun z24 L24 μ24 hp => ?_)
      obtain ⟨rfl, e24, hz24⟩ := hp
      replace e24 := e24.symm
      subst e24
      try simp (disch := decide) only [ot_rd, ot_rs, ot_rf, ot_ucd, ot_ucs] at hz24
      refine tt_if_eq X 59 (by rw [hz24]; split <;> omega) dX5_noteOdds_27 (by decide) (fun b27 => ?_) (fun b27 => ?_)
      · refine tt_iinc X dX5_noteOdds_59 rfl (by decide) ?_
        refine tt_goto X 7 dX5_noteOdds_62 (by decide) ?_
        refine tt_loc [(0, _), (1, _), (2, _), (3, _)] ⟨rfl, rfl, rfl, rfl, trivial⟩ ?_
        have hy := hI.2.1
        have hcs : cnt (pt &&& od) (i + 1) = cnt (pt &&& od) i + (if (pt &&& od).testBit i then 1 else 0) := rfl
        first
          | (have hb : (pt &&& od).testBit i = false := by
               rw [Nat.testBit_and]
               first
                 | (rw [tb_nil (m := pt) (i := i) (by omega)]; rfl)
                 | (have ho : od.testBit i = false := note_even (hod i (by omega)) hz24 (by omega)
                    rw [ho, Bool.and_false])
             rw [hb] at hcs
             simp only [Bool.false_eq_true, if_false] at hcs
             refine ih (i + 1, y, G) ⟨by show i + 1 ≤ 24; omega, by show y = μ 41 5 + (cnt (pt &&& od) (i + 1) : Int); omega, fun u hu hu2 => ?_⟩ (by show 24 - (i + 1) < 24 - i; omega)
             by_cases w : u = i
             · subst w; rw [hb] at hu2; cases hu2
             · exact hI.2.2 u (by omega) hu2)
          | (have hb0 := tb_one (m := pt) (i := i) (by omega)
             have ho : od.testBit i = true := note_odd (hod i (by omega)) hz24 (by omega)
             have hb : (pt &&& od).testBit i = true := by rw [Nat.testBit_and, hb0, ho]; rfl
             rw [hb] at hcs
             simp only [if_true] at hcs
             refine tt_mem (μ' := ot_up (ot_uc μ 43 (up1 G y (i : Int))) 41 5 (y + 1)) ?_ ?_
             · funext q c1
               by_cases w1 : q = 41
               · subst w1; by_cases w2 : c1 = 5 <;> simp [ot_up, ot_uc, w2]
               · by_cases w2 : q = 43
                 · subst w2; simp [ot_up, ot_uc, up1]
                 · simp [ot_up, ot_uc, w1, w2]
             refine ih (i + 1, y + 1, up1 G y (i : Int)) ⟨by show i + 1 ≤ 24; omega, by show y + 1 = μ 41 5 + (cnt (pt &&& od) (i + 1) : Int); omega, fun u hu hu2 => ?_⟩ (by show 24 - (i + 1) < 24 - i; omega)
             show up1 G y (i : Int) (μ 41 5 + (cnt (pt &&& od) u : Int)) = (u : Int)
             by_cases w : u = i
             · subst w; rw [← hy, up1_s]
             · have := cnt_at (m := pt &&& od) (i := u) (j := i) (n := i) (by omega) (by omega) hu2
               rw [up1_n (by omega)]
               exact hI.2.2 u (by omega) hu2)
      · refine tt_aload_n X rfl dX5_noteOdds_30 ?_
        refine tt_geti X fX5_50 (k_41 _ _) (by decide) (Or.inl rfl) dX5_noteOdds_31 ?_
        try simp (disch := decide) only [ot_rd, ot_rs, ot_rf, ot_ucd, ot_ucs]
        refine tt_bipush X (by decide) dX5_noteOdds_34 ?_
        refine tt_icmp_ge X 59 (by first | omega | (simp (disch := decide) only [ot_rd, ot_rs, ot_rf, ot_ucd, ot_ucs]; omega)) dX5_noteOdds_36 (by decide) (fun b36 => ?_) (fun b36 => ?_)
        · exact absurd b36 (by have := note_no (by omega) hy0 hroom.2 (tb_one (m := pt) (i := i) (by omega)) (note_odd (hod i (by omega)) hz24 b27); omega)
        · refine tt_aload_n X rfl dX5_noteOdds_39 ?_
          refine tt_getr X fX5_15 (k_41 _ _) (by decide) ⟨nofun, nofun⟩ rfl dX5_noteOdds_40 ?_
          refine tt_aload_n X rfl dX5_noteOdds_43 ?_
          refine tt_geti X fX5_50 (k_41 _ _) (by decide) (Or.inl rfl) dX5_noteOdds_44 ?_
          try simp (disch := decide) only [ot_rd, ot_rs, ot_rf, ot_ucd, ot_ucs]
          refine tt_iload_n X rfl dX5_noteOdds_47 ?_
          refine tt_iastore X (k_43 _ _) (by first | omega | (simp (disch := decide) only [ot_rd, ot_rs, ot_rf, ot_ucd, ot_ucs]; omega)) dX5_noteOdds_48 ?_
          refine tt_aload_n X rfl dX5_noteOdds_49 ?_
          refine tt_dup X dX5_noteOdds_50 ?_
          refine tt_geti X fX5_50 (k_41 _ _) (by decide) (Or.inl rfl) dX5_noteOdds_51 ?_
          try simp (disch := decide) only [ot_rd, ot_rs, ot_rf, ot_ucd, ot_ucs]
          refine tt_iconst X dX5_noteOdds_54 ?_
          refine tt_iadd X dX5_noteOdds_55 ?_
          refine tt_puti X fX5_50 kc_5 (k_41 _ _) (by decide) (fun q hq => by cases hq; rfl) rfl dX5_noteOdds_56 ?_
          refine tt_iinc X dX5_noteOdds_59 rfl (by decide) ?_
          refine tt_goto X 7 dX5_noteOdds_62 (by decide) ?_
          refine tt_loc [(0, _), (1, _), (2, _), (3, _)] ⟨rfl, rfl, rfl, rfl, trivial⟩ ?_
          have hy := hI.2.1
          have hcs : cnt (pt &&& od) (i + 1) = cnt (pt &&& od) i + (if (pt &&& od).testBit i then 1 else 0) := rfl
          first
            | (have hb : (pt &&& od).testBit i = false := by
                 rw [Nat.testBit_and]
                 first
                   | (rw [tb_nil (m := pt) (i := i) (by omega)]; rfl)
                   | (have ho : od.testBit i = false := note_even (hod i (by omega)) hz24 (by omega)
                      rw [ho, Bool.and_false])
               rw [hb] at hcs
               simp only [Bool.false_eq_true, if_false] at hcs
               refine ih (i + 1, y, G) ⟨by show i + 1 ≤ 24; omega, by show y = μ 41 5 + (cnt (pt &&& od) (i + 1) : Int); omega, fun u hu hu2 => ?_⟩ (by show 24 - (i + 1) < 24 - i; omega)
               by_cases w : u = i
               · subst w; rw [hb] at hu2; cases hu2
               · exact hI.2.2 u (by omega) hu2)
            | (have hb0 := tb_one (m := pt) (i := i) (by omega)
               have ho : od.testBit i = true := note_odd (hod i (by omega)) hz24 (by omega)
               have hb : (pt &&& od).testBit i = true := by rw [Nat.testBit_and, hb0, ho]; rfl
               rw [hb] at hcs
               simp only [if_true] at hcs
               refine tt_mem (μ' := ot_up (ot_uc μ 43 (up1 G y (i : Int))) 41 5 (y + 1)) ?_ ?_
               · funext q c1
                 by_cases w1 : q = 41
                 · subst w1; by_cases w2 : c1 = 5 <;> simp [ot_up, ot_uc, w2]
                 · by_cases w2 : q = 43
                   · subst w2; simp [ot_up, ot_uc, up1]
                   · simp [ot_up, ot_uc, w1, w2]
               refine ih (i + 1, y + 1, up1 G y (i : Int)) ⟨by show i + 1 ≤ 24; omega, by show y + 1 = μ 41 5 + (cnt (pt &&& od) (i + 1) : Int); omega, fun u hu hu2 => ?_⟩ (by show 24 - (i + 1) < 24 - i; omega)
               show up1 G y (i : Int) (μ 41 5 + (cnt (pt &&& od) u : Int)) = (u : Int)
               by_cases w : u = i
               · subst w; rw [← hy, up1_s]
               · have := cnt_at (m := pt &&& od) (i := u) (j := i) (n := i) (by omega) (by omega) hu2
                 rw [up1_n (by omega)]
                 exact hI.2.2 u (by omega) hu2)

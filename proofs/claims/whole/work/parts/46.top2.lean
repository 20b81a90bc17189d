theorem up1_up1 {f : Int → Int} {x v w : Int} : up1 (up1 f x v) x w = up1 f x w := by
  funext j
  by_cases h : j = x <;> simp [up1, h]
theorem up1_same {f : Int → Int} {x : Int} : up1 f x (f x) = f := by
  funext j
  by_cases h : j = x <;> simp [up1, h]
theorem ot_uc6 {μ : ot_M} {c c2 f z D U f2 z2 D2 U2 : Int → Int} : ot_uc (ot_uc (ot_uc (ot_uc (ot_uc (ot_uc (ot_uc (ot_uc (ot_uc (ot_uc μ 38 f) 39 z) 34 D) 35 U) 8 c) 38 f2) 39 z2) 34 D2) 35 U2) 8 c2 = ot_uc (ot_uc (ot_uc (ot_uc (ot_uc μ 38 f2) 39 z2) 34 D2) 35 U2) 8 c2 := by
  funext k j
  by_cases h1 : k = 8
  · simp [ot_uc, h1]
  · by_cases h2 : k = 35
    · simp [ot_uc, h2]
    · by_cases h3 : k = 34
      · simp [ot_uc, h3]
      · by_cases h4 : k = 39
        · simp [ot_uc, h4]
        · by_cases h5 : k = 38
          · simp [ot_uc, h5]
          · simp [ot_uc, h1, h2, h3, h4, h5]
set_option maxRecDepth 100000 in
set_option maxHeartbeats 1000000 in
theorem c_far (l : Launch) (g : ot_G) (ln : Nat) (ext : ot_L) (μ : ot_M) (q : Int) (hq : -2147483648 ≤ q ∧ q ≤ 2147483647)(hF : ∀ q, 0 ≤ q → q < 4 → gFar (μ 4) (μ 34) q) : ot_C l g yX9_far cX9_far 2 (some .int) 2 0 0 [.inr 0, .inl q] (LL ln ext) μ (ot_pi (fun r L2 μ2 => L2 = LL ln ext ∧ μ2 = μ ∧ r = (if 0 ≤ q ∧ q < 4 then farS (μ 5) (μ 4) (μ 34) q else -1))) := by
  refine ot_enter (by decide) (Nat.le_of_ble_eq_true rfl) ?_
  intro p e s m args below meth c X hr
  refine tt_iload_n X rfl dX9_far_0 ?_
  refine tt_si X rfl mX9_112 (c_isPicture l g ln ext _ _ (by first | omega | (simp (disch := decide) only [ot_rd, ot_rs, ot_rf, ot_ucd, ot_ucs]; omega))) rfl rfl (Nat.le_of_ble_eq_true rfl) (by decide) (by decide) (by decide) dX9_far_1 (fun z1 L1 μ1 hp => ?_)
  obtain ⟨rfl, e1, hz1⟩ := hp
  replace e1 := e1.symm
  subst e1
  try simp (disch := decide) only [ot_rd, ot_rs, ot_rf, ot_ucd, ot_ucs] at hz1
  refine tt_if_eq X 18 (by first | omega | (simp (disch := decide) only [ot_rd, ot_rs, ot_rf, ot_ucd, ot_ucs]; omega)) dX9_far_4 (by decide) (fun b4 => ?_) (fun b4 => ?_)
  · refine tt_iconst X dX9_far_18 ?_
    refine tt_iret X ⟨hr.1, hr.2.1⟩ (by decide) (by decide) dX9_far_19 ?_
    refine ⟨rfl, rfl, ?_⟩
    first | (rw [if_neg (by omega)]; done) | (rw [if_pos (by omega)]; assumption)
  · refine tt_aload_n X rfl dX9_far_7 ?_
    refine tt_getr X fX9_24 (k_0 _ _) (by decide) ⟨nofun, nofun⟩ rfl dX9_far_8 ?_
    refine tt_iload_n X rfl dX9_far_11 ?_
    refine tt_vi X rfl mX9_207 (c_farOf l g ln ext _ _ (by omega) (hF q (by omega) (by omega))) (k_33 _ _) ⟨_, rfl, rfl⟩ rfl rfl (Nat.le_of_ble_eq_true rfl) (by decide) (by decide) (by decide) dX9_far_12 (fun z12 L12 μ12 hp => ?_)
    obtain ⟨rfl, e12, hz12⟩ := hp
    replace e12 := e12.symm
    subst e12
    try simp (disch := decide) only [ot_rd, ot_rs, ot_rf, ot_ucd, ot_ucs] at hz12
    refine tt_goto X 19 dX9_far_15 (by decide) ?_
    refine tt_iret X ⟨hr.1, hr.2.1⟩ (by decide) (by decide) dX9_far_19 ?_
    refine ⟨rfl, rfl, ?_⟩
    first | (rw [if_neg (by omega)]; done) | (rw [if_pos (by omega)]; assumption)
set_option maxRecDepth 100000 in
set_option maxHeartbeats 1000000 in
theorem c_samples (l : Launch) (g : ot_G) (ln : Nat) (ext : ot_L) (μ : ot_M) (a b x y : Int) (ha : -2147483648 ≤ a ∧ a ≤ 2147483647) (hb : -2147483648 ≤ b ∧ b ≤ 2147483647) (hx : -2147483648 ≤ x ∧ x ≤ 2147483647) (hy : -2147483648 ≤ y ∧ y ≤ 2147483647)(hG : gPin (μ 1 11) (μ 1 12) (μ 2) (μ 3)) (hCh : gChd (μ 1 11) (μ 1 12) (μ 2) (μ 3) (μ 38) (μ 39))  : ot_C l g yX9_samples cX9_samples 6 (some .int) 5 0 0 [.inr 0, .inl a, .inl b, .inl x, .inl y] (LL ln ext) μ (ot_pi (fun r L2 μ2 => L2 = LL ln ext ∧ r = (if (0 ≤ a ∧ a < μ 1 12 ∧ 0 ≤ b ∧ b < μ 1 12 ∧ a ≠ b) ∧ (0 ≤ x ∧ x < μ 1 11 ∧ 0 ≤ y ∧ y < μ 1 11) then smp (μ 1 11) (μ 2) (μ 3) a b (x + 8 * y) else -1) ∧ ∃ f z, μ2 = ot_uc (ot_uc μ 38 f) 39 z ∧ gChd (μ 1 11) (μ 1 12) (μ 2) (μ 3) f z)) := by
  refine ot_enter (by decide) (Nat.le_of_ble_eq_true rfl) ?_
  intro p e s m args below meth c X hr
  have hS := hG.1
  have hNn := hG.2.1
  refine tt_aload_n X rfl dX9_samples_0 ?_
  refine tt_getr X fX9_12 (k_0 _ _) (by decide) ⟨nofun, nofun⟩ rfl dX9_samples_1 ?_
  refine tt_iload_n X rfl dX9_samples_4 ?_
  refine tt_iload X rfl dX9_samples_5 ?_
  refine tt_vi X rfl mX9_108 (c_squareAt l g ln ext _ _ _ (by first | omega | (simp (disch := decide) only [ot_rd, ot_rs, ot_rf, ot_ucd, ot_ucs]; omega)) (by first | omega | (simp (disch := decide) only [ot_rd, ot_rs, ot_rf, ot_ucd, ot_ucs]; omega)) (by first | omega | (simp (disch := decide) only [ot_rd, ot_rs, ot_rf, ot_ucd, ot_ucs]; omega))) (k_1 _ _) ⟨_, rfl, rfl⟩ rfl rfl (Nat.le_of_ble_eq_true rfl) (by decide) (by decide) (by decide) dX9_samples_7 (fun z7 L7 μ7 hp => ?_)
  obtain ⟨rfl, e7, hz7⟩ := hp
  replace e7 := e7.symm
  subst e7
  try simp (disch := decide) only [ot_rd, ot_rs, ot_rf, ot_ucd, ot_ucs] at hz7
  refine tt_istore X dX9_samples_10 (by decide) ?_
  refine tt_aload_n X rfl dX9_samples_12 ?_
  refine tt_getr X fX9_12 (k_0 _ _) (by decide) ⟨nofun, nofun⟩ rfl dX9_samples_13 ?_
  refine tt_iload_n X rfl dX9_samples_16 ?_
  refine tt_iload_n X rfl dX9_samples_17 ?_
  refine tt_vi X rfl mX9_198 (c_isLine l g ln ext _ _ _ (by first | omega | (simp (disch := decide) only [ot_rd, ot_rs, ot_rf, ot_ucd, ot_ucs]; omega)) (by first | omega | (simp (disch := decide) only [ot_rd, ot_rs, ot_rf, ot_ucd, ot_ucs]; omega)) (by first | omega | (simp (disch := decide) only [ot_rd, ot_rs, ot_rf, ot_ucd, ot_ucs]; omega))) (k_1 _ _) ⟨_, rfl, rfl⟩ rfl rfl (Nat.le_of_ble_eq_true rfl) (by decide) (by decide) (by decide) dX9_samples_18 (fun z18 L18 μ18 hp => ?_)
  obtain ⟨rfl, e18, hz18⟩ := hp
  replace e18 := e18.symm
  subst e18
  try simp (disch := decide) only [ot_rd, ot_rs, ot_rf, ot_ucd, ot_ucs] at hz18
  refine tt_if_eq X 30 (by first | omega | (simp (disch := decide) only [ot_rd, ot_rs, ot_rf, ot_ucd, ot_ucs]; omega)) dX9_samples_21 (by decide) (fun b21 => ?_) (fun b21 => ?_)
  · refine tt_iconst X dX9_samples_30 ?_
    refine tt_iret X ⟨hr.1, hr.2.1⟩ (by decide) (by decide) dX9_samples_31 ?_
    first | exact ⟨rfl, by rw [if_neg (by omega)], μ 38, μ 39, ot_memCS, hCh⟩ | (refine ⟨rfl, ?_, f, z, rfl, hc⟩; rw [if_pos (by omega)]; rw [if_pos (by omega)] at hz7; rw [← hz7]; exact hz43)
  · refine tt_iload X rfl dX9_samples_24 ?_
    refine tt_iconst X dX9_samples_26 ?_
    refine tt_icmp_ne X 32 (by first | omega | (simp (disch := decide) only [ot_rd, ot_rs, ot_rf, ot_ucd, ot_ucs]; omega)) dX9_samples_27 (by decide) (fun b27 => ?_) (fun b27 => ?_)
    · refine tt_aload_n X rfl dX9_samples_32 ?_
      refine tt_getr X fX9_24 (k_0 _ _) (by decide) ⟨nofun, nofun⟩ rfl dX9_samples_33 ?_
      refine tt_getr X fX9_46 (k_33 _ _) (by decide) ⟨nofun, nofun⟩ rfl dX9_samples_36 ?_
      refine tt_iload_n X rfl dX9_samples_39 ?_
      refine tt_iload_n X rfl dX9_samples_40 ?_
      refine tt_iload X rfl dX9_samples_41 ?_
      refine tt_vi X rfl mX9_201 (c_samplesIn l g ln ext _ _ _ _ (by omega) hG hCh (by omega) (by omega) (by omega)) (k_37 _ _) ⟨_, rfl, rfl⟩ rfl rfl (Nat.le_of_ble_eq_true rfl) (by decide) (by decide) (by decide) dX9_samples_43 (fun z43 L43 μ43 hp => ?_)
      obtain ⟨rfl, hz43, f, z, rfl, hc⟩ := hp
      try simp (disch := decide) only [ot_rd, ot_rs, ot_rf, ot_ucd, ot_ucs] at hz43
      refine tt_iret X ⟨hr.1, hr.2.1⟩ (by decide) (by decide) dX9_samples_46 ?_
      first | exact ⟨rfl, by rw [if_neg (by omega)], μ 38, μ 39, ot_memCS, hCh⟩ | (refine ⟨rfl, ?_, f, z, rfl, hc⟩; rw [if_pos (by omega)]; rw [if_pos (by omega)] at hz7; rw [← hz7]; exact hz43)
    · refine tt_iconst X dX9_samples_30 ?_
      refine tt_iret X ⟨hr.1, hr.2.1⟩ (by decide) (by decide) dX9_samples_31 ?_
      first | exact ⟨rfl, by rw [if_neg (by omega)], μ 38, μ 39, ot_memCS, hCh⟩ | (refine ⟨rfl, ?_, f, z, rfl, hc⟩; rw [if_pos (by omega)]; rw [if_pos (by omega)] at hz7; rw [← hz7]; exact hz43)
set_option maxRecDepth 100000 in
set_option maxHeartbeats 1000000 in
theorem c_shade (l : Launch) (g : ot_G) (ln : Nat) (ext : ot_L) (μ : ot_M) (t v : Int) (ht : -2147483648 ≤ t ∧ t ≤ 2147483647) (hv : -2147483648 ≤ v ∧ v ≤ 2147483647)(hG : gPin (μ 1 11) (μ 1 12) (μ 2) (μ 3)) (hCh : gChd (μ 1 11) (μ 1 12) (μ 2) (μ 3) (μ 38) (μ 39)) (hW : gWnd (μ 1 12) (μ 8) (μ 7))  : ot_C l g yX9_shade cX9_shade 3 (some .boolean) 6 0 0 [.inr 0, .inl t, .inl v] (LL ln ext) μ (ot_pi (fun r L2 μ2 => L2 = LL ln ext ∧ ((((0 ≤ t ∧ t < 3) ∧ 0 ≤ v ∧ v ≤ 9) ∧ r = 1 ∧ ∃ f z, gChd (μ 1 11) (μ 1 12) (μ 2) (μ 3) f z ∧ μ2 = ot_up (ot_uc (ot_uc (ot_uc (ot_uc (ot_uc μ 6 (up1 (μ 6) t v)) 38 f) 39 z) 34 (wr 64 (μ 34) (dk (μ 1 11) (μ 2) (μ 3) (μ 8) (μ 7) (up1 (μ 6) t v)))) 35 (wr 276 (μ 35) (usC (μ 8) (μ 7)))) 0 14 0) ∨ (¬ ((0 ≤ t ∧ t < 3) ∧ 0 ≤ v ∧ v ≤ 9) ∧ r = 0 ∧ μ2 = μ)))) := by
  refine ot_enter (by decide) (Nat.le_of_ble_eq_true rfl) ?_
  intro p e s m args below meth c X hr
  refine tt_iload_n X rfl dX9_shade_0 ?_
  refine tt_si X rfl mX9_122 (c_isThread l g ln ext _ _ (by first | omega | (simp (disch := decide) only [ot_rd, ot_rs, ot_rf, ot_ucd, ot_ucs]; omega))) rfl rfl (Nat.le_of_ble_eq_true rfl) (by decide) (by decide) (by decide) dX9_shade_1 (fun z1 L1 μ1 hp => ?_)
  obtain ⟨rfl, e1, hz1⟩ := hp
  replace e1 := e1.symm
  subst e1
  try simp (disch := decide) only [ot_rd, ot_rs, ot_rf, ot_ucd, ot_ucs] at hz1
  refine tt_if_eq X 17 (by first | omega | (simp (disch := decide) only [ot_rd, ot_rs, ot_rf, ot_ucd, ot_ucs]; omega)) dX9_shade_4 (by decide) (fun b4 => ?_) (fun b4 => ?_)
  · refine tt_iconst X dX9_shade_17 ?_
    refine tt_zret X ⟨hr.1, hr.2.1⟩ (by omega) (by decide) (by decide) dX9_shade_18 ?_
    first | exact ⟨rfl, Or.inr ⟨by omega, rfl, rfl⟩⟩ | exact ⟨rfl, Or.inl ⟨by omega, rfl, f, z, hc, rfl⟩⟩
  · refine tt_iload_n X rfl dX9_shade_7 ?_
    refine tt_if_lt X 17 (by first | omega | (simp (disch := decide) only [ot_rd, ot_rs, ot_rf, ot_ucd, ot_ucs]; omega)) dX9_shade_8 (by decide) (fun b8 => ?_) (fun b8 => ?_)
    · refine tt_iconst X dX9_shade_17 ?_
      refine tt_zret X ⟨hr.1, hr.2.1⟩ (by omega) (by decide) (by decide) dX9_shade_18 ?_
      first | exact ⟨rfl, Or.inr ⟨by omega, rfl, rfl⟩⟩ | exact ⟨rfl, Or.inl ⟨by omega, rfl, f, z, hc, rfl⟩⟩
    · refine tt_iload_n X rfl dX9_shade_11 ?_
      refine tt_bipush X (by decide) dX9_shade_12 ?_
      refine tt_icmp_le X 19 (by first | omega | (simp (disch := decide) only [ot_rd, ot_rs, ot_rf, ot_ucd, ot_ucs]; omega)) dX9_shade_14 (by decide) (fun b14 => ?_) (fun b14 => ?_)
      · refine tt_aload_n X rfl dX9_shade_19 ?_
        refine tt_getr X fX9_12 (k_0 _ _) (by decide) ⟨nofun, nofun⟩ rfl dX9_shade_20 ?_
        refine tt_getr X fX9_125 (k_1 _ _) (by decide) ⟨nofun, nofun⟩ rfl dX9_shade_23 ?_
        refine tt_iload_n X rfl dX9_shade_26 ?_
        refine tt_iload_n X rfl dX9_shade_27 ?_
        refine tt_iastore X (k_6 _ _) (by first | omega | (simp (disch := decide) only [ot_rd, ot_rs, ot_rf, ot_ucd, ot_ucs]; omega)) dX9_shade_28 ?_
        refine tt_mem (ot_up_uc (μ := μ) (k := 6) (i := t) (v := v)) ?_
        refine tt_aload_n X rfl dX9_shade_29 ?_
        refine tt_getr X fX9_24 (k_0 _ _) (by decide) ⟨nofun, nofun⟩ rfl dX9_shade_30 ?_
        refine tt_vv X rfl mX9_128 (c_tally l g ln ext _ (by simp (disch := decide) only [ot_ucd, ot_ucs, ot_rd, ot_rs, ot_rf]; exact hG) (by simp (disch := decide) only [ot_ucd, ot_ucs, ot_rd, ot_rs, ot_rf]; exact hCh) (by simp (disch := decide) only [ot_ucd, ot_ucs, ot_rd, ot_rs, ot_rf]; exact hW)) (k_33 _ _) ⟨_, rfl, rfl⟩ rfl rfl (Nat.le_of_ble_eq_true rfl) (by decide) (by decide) (by decide) dX9_shade_33 (fun L33 μ33 hp => ?_)
        obtain ⟨rfl, f, z, hc, rfl⟩ := hp
        simp (disch := decide) only [ot_ucd, ot_ucs, ot_rd, ot_rs, ot_rf] at hc ⊢
        refine tt_aload_n X rfl dX9_shade_36 ?_
        refine tt_iconst X dX9_shade_37 ?_
        refine tt_puti X fX9_89 kc_9 (k_0 _ _) (by decide) (fun q hq => by cases hq; rfl) rfl dX9_shade_38 ?_
        refine tt_iconst X dX9_shade_41 ?_
        refine tt_zret X ⟨hr.1, hr.2.1⟩ (by omega) (by decide) (by decide) dX9_shade_42 ?_
        first | exact ⟨rfl, Or.inr ⟨by omega, rfl, rfl⟩⟩ | exact ⟨rfl, Or.inl ⟨by omega, rfl, f, z, hc, rfl⟩⟩
      · refine tt_iconst X dX9_shade_17 ?_
        refine tt_zret X ⟨hr.1, hr.2.1⟩ (by omega) (by decide) (by decide) dX9_shade_18 ?_
        first | exact ⟨rfl, Or.inr ⟨by omega, rfl, rfl⟩⟩ | exact ⟨rfl, Or.inl ⟨by omega, rfl, f, z, hc, rfl⟩⟩
set_option maxRecDepth 100000 in
set_option maxHeartbeats 1000000 in
theorem c_rub (l : Launch) (g : ot_G) (ln : Nat) (ext : ot_L) (μ : ot_M) (t n : Int) (ht : -2147483648 ≤ t ∧ t ≤ 2147483647) (hn : -2147483648 ≤ n ∧ n ≤ 2147483647)(hG : gPin (μ 1 11) (μ 1 12) (μ 2) (μ 3)) (hCh : gChd (μ 1 11) (μ 1 12) (μ 2) (μ 3) (μ 38) (μ 39)) (hW : gWnd (μ 1 12) (μ 8) (μ 7)) (hCl : gClo (μ 1 11) (μ 2) (μ 3) (μ 8) (μ 7) (μ 6) (μ 34) (μ 35))  : ot_C l g yX9_rub cX9_rub 4 (some .int) 6 0 0 [.inr 0, .inl t, .inl n] (LL ln ext) μ (ot_pi (fun r L2 μ2 => L2 = LL ln ext ∧ (((0 ≤ t ∧ t < 3 ∧ 0 ≤ n ∧ n ≤ μ 8 t) ∧ r = μ 8 t - n ∧ ∃ f z D U, gChd (μ 1 11) (μ 1 12) (μ 2) (μ 3) f z ∧ gClo (μ 1 11) (μ 2) (μ 3) (up1 (μ 8) t (μ 8 t - n)) (μ 7) (μ 6) D U ∧ μ2 = ot_up (ot_uc (ot_uc (ot_uc (ot_uc (ot_uc μ 38 f) 39 z) 34 D) 35 U) 8 (up1 (μ 8) t (μ 8 t - n))) 0 14 0) ∨ (¬ (0 ≤ t ∧ t < 3 ∧ 0 ≤ n ∧ n ≤ μ 8 t) ∧ r = -1 ∧ μ2 = μ)))) := by
  refine ot_enter (by decide) (Nat.le_of_ble_eq_true rfl) ?_
  intro p e s m args below meth c X hr
  refine tt_iload_n X rfl dX9_rub_0 ?_
  refine tt_si X rfl mX9_122 (c_isThread l g ln ext _ _ (by first | omega | (simp (disch := decide) only [ot_rd, ot_rs, ot_rf, ot_ucd, ot_ucs]; omega))) rfl rfl (Nat.le_of_ble_eq_true rfl) (by decide) (by decide) (by decide) dX9_rub_1 (fun z1 L1 μ1 hp => ?_)
  obtain ⟨rfl, e1, hz1⟩ := hp
  replace e1 := e1.symm
  subst e1
  try simp (disch := decide) only [ot_rd, ot_rs, ot_rf, ot_ucd, ot_ucs] at hz1
  refine tt_if_eq X 24 (by first | omega | (simp (disch := decide) only [ot_rd, ot_rs, ot_rf, ot_ucd, ot_ucs]; omega)) dX9_rub_4 (by decide) (fun b4 => ?_) (fun b4 => ?_)
  · refine tt_iconst X dX9_rub_24 ?_
    refine tt_iret X ⟨hr.1, hr.2.1⟩ (by decide) (by decide) dX9_rub_25 ?_
    first | exact ⟨rfl, Or.inr ⟨by omega, rfl, rfl⟩⟩ | (rw [show n = i by omega]; refine ⟨rfl, Or.inl ⟨by omega, ?_, f, z, D, U, hI.2.1, hI.2.2, rfl⟩⟩; simp only [up1_s])
  · have hWt := hW t (by omega) (by omega)
    refine tt_iload_n X rfl dX9_rub_7 ?_
    refine tt_if_lt X 24 (by first | omega | (simp (disch := decide) only [ot_rd, ot_rs, ot_rf, ot_ucd, ot_ucs]; omega)) dX9_rub_8 (by decide) (fun b8 => ?_) (fun b8 => ?_)
    · refine tt_iconst X dX9_rub_24 ?_
      refine tt_iret X ⟨hr.1, hr.2.1⟩ (by decide) (by decide) dX9_rub_25 ?_
      first | exact ⟨rfl, Or.inr ⟨by omega, rfl, rfl⟩⟩ | (rw [show n = i by omega]; refine ⟨rfl, Or.inl ⟨by omega, ?_, f, z, D, U, hI.2.1, hI.2.2, rfl⟩⟩; simp only [up1_s])
    · refine tt_iload_n X rfl dX9_rub_11 ?_
      refine tt_aload_n X rfl dX9_rub_12 ?_
      refine tt_getr X fX9_12 (k_0 _ _) (by decide) ⟨nofun, nofun⟩ rfl dX9_rub_13 ?_
      refine tt_getr X fX9_151 (k_1 _ _) (by decide) ⟨nofun, nofun⟩ rfl dX9_rub_16 ?_
      refine tt_iload_n X rfl dX9_rub_19 ?_
      refine tt_iaload X (k_8 _ _) (by first | omega | (simp (disch := decide) only [ot_rd, ot_rs, ot_rf, ot_ucd, ot_ucs]; omega)) dX9_rub_20 ?_
      try simp (disch := decide) only [ot_rd, ot_rs, ot_rf, ot_ucd, ot_ucs]
      refine tt_icmp_le X 26 (by first | omega | (simp (disch := decide) only [ot_rd, ot_rs, ot_rf, ot_ucd, ot_ucs]; omega)) dX9_rub_21 (by decide) (fun b21 => ?_) (fun b21 => ?_)
      · refine tt_iconst X dX9_rub_26 ?_
        refine tt_istore_n X dX9_rub_27 (by decide) ?_
        refine tt_mem (μ' := ot_uc (ot_uc (ot_uc (ot_uc (ot_uc μ 38 (μ 38)) 39 (μ 39)) 34 (μ 34)) 35 (μ 35)) 8 (up1 (μ 8) t (μ 8 t - 0))) (by rw [show μ 8 t - 0 = μ 8 t by omega, up1_same, ← ot_cl1, ot_uc_self]) ?_
        refine tt_loc [(0, _), (1, _), (2, _), (3, _)] ⟨rfl, rfl, rfl, rfl, trivial⟩ ?_
        refine tt_loop (α := Int × (Int → Int) × (Int → Int) × (Int → Int) × (Int → Int)) (fun ((i, f, z, D, U)) => (n - i).toNat) (fun ((i, f, z, D, U)) => (0 ≤ i ∧ i ≤ n) ∧ gChd (μ 1 11) (μ 1 12) (μ 2) (μ 3) f z ∧ gClo (μ 1 11) (μ 2) (μ 3) (up1 (μ 8) t (μ 8 t - i)) (μ 7) (μ 6) D U) (fun ((i, f, z, D, U)) => ot_uc (ot_uc (ot_uc (ot_uc (ot_uc μ 38 f) 39 z) 34 D) 35 U) 8 (up1 (μ 8) t (μ 8 t - i))) (fun ((i, f, z, D, U)) => [(0, .inr 0), (1, .inl t), (2, .inl n), (3, .inl i)]) (0, μ 38, μ 39, μ 34, μ 35) ⟨by show 0 ≤ (0 : Int) ∧ (0 : Int) ≤ n; omega, hCh, by rw [show μ 8 t - 0 = μ 8 t by omega, up1_same]; exact hCl⟩ ?_
        intro a hI ih
        obtain ⟨i, f, z, D, U⟩ := a
        try dsimp only at hI ih ⊢
        replace hI : (0 ≤ i ∧ i ≤ n) ∧ gChd (μ 1 11) (μ 1 12) (μ 2) (μ 3) f z ∧ gClo (μ 1 11) (μ 2) (μ 3) (up1 (μ 8) t (μ 8 t - i)) (μ 7) (μ 6) D U := hI
        have hi := hI.1
        refine tt_iload_n X rfl dX9_rub_28 ?_
        refine tt_iload_n X rfl dX9_rub_29 ?_
        refine tt_icmp_ge X 47 (by first | omega | (simp (disch := decide) only [ot_rd, ot_rs, ot_rf, ot_ucd, ot_ucs]; omega)) dX9_rub_30 (by decide) (fun b30 => ?_) (fun b30 => ?_)
        · refine tt_aload_n X rfl dX9_rub_47 ?_
          refine tt_iconst X dX9_rub_48 ?_
          refine tt_puti X fX9_89 kc_9 (k_0 _ _) (by decide) (fun q hq => by cases hq; rfl) rfl dX9_rub_49 ?_
          refine tt_aload_n X rfl dX9_rub_52 ?_
          refine tt_getr X fX9_12 (k_0 _ _) (by decide) ⟨nofun, nofun⟩ rfl dX9_rub_53 ?_
          refine tt_getr X fX9_151 (k_1 _ _) (by decide) ⟨nofun, nofun⟩ rfl dX9_rub_56 ?_
          refine tt_iload_n X rfl dX9_rub_59 ?_
          refine tt_iaload X (k_8 _ _) (by first | omega | (simp (disch := decide) only [ot_rd, ot_rs, ot_rf, ot_ucd, ot_ucs]; omega)) dX9_rub_60 ?_
          try simp (disch := decide) only [ot_rd, ot_rs, ot_rf, ot_ucd, ot_ucs]
          refine tt_iret X ⟨hr.1, hr.2.1⟩ (by decide) (by decide) dX9_rub_61 ?_
          first | exact ⟨rfl, Or.inr ⟨by omega, rfl, rfl⟩⟩ | (rw [show n = i by omega]; refine ⟨rfl, Or.inl ⟨by omega, ?_, f, z, D, U, hI.2.1, hI.2.2, rfl⟩⟩; simp only [up1_s])
        · refine tt_aload_n X rfl dX9_rub_33 ?_
          refine tt_getr X fX9_24 (k_0 _ _) (by decide) ⟨nofun, nofun⟩ rfl dX9_rub_34 ?_
          refine tt_iload_n X rfl dX9_rub_37 ?_
          refine tt_vv X rfl mX9_154 (c_goBack l g ln ext _ _ (by simp (disch := decide) only [ot_ucd, ot_ucs, ot_rd, ot_rs, ot_rf]; exact hG) (by simp (disch := decide) only [ot_ucd, ot_ucs, ot_rd, ot_rs, ot_rf]; exact hI.2.1) (by simp (disch := decide) only [ot_ucd, ot_ucs, ot_rd, ot_rs, ot_rf]; exact gWnd_pop hW (by omega)) (by simp (disch := decide) only [ot_ucd, ot_ucs, ot_rd, ot_rs, ot_rf]; exact hI.2.2) (by omega)) (k_33 _ _) ⟨_, rfl, rfl⟩ rfl rfl (Nat.le_of_ble_eq_true rfl) (by decide) (by decide) (by decide) dX9_rub_38 (fun L38 μ38 hp => ?_)
          obtain ⟨rfl, f2, z2, D2, U2, hc2, hcl2, rfl⟩ := hp
          simp (disch := decide) only [ot_ucd, ot_ucs, ot_rd, ot_rs, ot_rf] at hc2 hcl2 ⊢
          simp only [up1_s] at hcl2 ⊢
          refine tt_iinc X dX9_rub_41 rfl (by decide) ?_
          refine tt_goto X 28 dX9_rub_44 (by decide) ?_
          refine tt_loc [(0, _), (1, _), (2, _), (3, _)] ⟨rfl, rfl, rfl, rfl, trivial⟩ ?_
          have ee : max (μ 8 t - i - 1) 0 = μ 8 t - (i + 1) := by omega
          rw [up1_up1, ee] at hcl2
          refine tt_mem (μ' := ot_uc (ot_uc (ot_uc (ot_uc (ot_uc μ 38 f2) 39 z2) 34 D2) 35 U2) 8 (up1 (μ 8) t (μ 8 t - (i + 1)))) (by rw [ot_uc6, up1_up1, ee]) ?_
          exact ih (i + 1, f2, z2, D2, U2) ⟨by show 0 ≤ i + 1 ∧ i + 1 ≤ n; omega, hc2, hcl2⟩ (by show (n - (i + 1)).toNat < (n - i).toNat; omega)
      · refine tt_iconst X dX9_rub_24 ?_
        refine tt_iret X ⟨hr.1, hr.2.1⟩ (by decide) (by decide) dX9_rub_25 ?_
        first | exact ⟨rfl, Or.inr ⟨by omega, rfl, rfl⟩⟩ | (rw [show n = i by omega]; refine ⟨rfl, Or.inl ⟨by omega, ?_, f, z, D, U, hI.2.1, hI.2.2, rfl⟩⟩; simp only [up1_s])
set_option maxRecDepth 100000 in
set_option maxHeartbeats 1000000 in
theorem c_undo (l : Launch) (g : ot_G) (ln : Nat) (ext : ot_L) (μ : ot_M) (hG : gPin (μ 1 11) (μ 1 12) (μ 2) (μ 3)) (hCh : gChd (μ 1 11) (μ 1 12) (μ 2) (μ 3) (μ 38) (μ 39)) (hW : gWnd (μ 1 12) (μ 8) (μ 7)) (hCl : gClo (μ 1 11) (μ 2) (μ 3) (μ 8) (μ 7) (μ 6) (μ 34) (μ 35)) (hU : 0 ≤ μ 0 14 ∧ μ 0 14 ≤ 40) (hT : ∀ i, 0 ≤ i → i < μ 0 14 → 0 ≤ μ 59 i ∧ μ 59 i < 3) : ot_C l g yX9_undo cX9_undo 1 (some .boolean) 6 0 0 [.inr 0] (LL ln ext) μ (ot_pi (fun r L2 μ2 => L2 = LL ln ext ∧ ((0 < μ 0 14 ∧ r = 1 ∧ ∃ f z D U, gChd (μ 1 11) (μ 1 12) (μ 2) (μ 3) f z ∧ gClo (μ 1 11) (μ 2) (μ 3) (up1 (μ 8) (μ 59 (μ 0 14 - 1)) (max (μ 8 (μ 59 (μ 0 14 - 1)) - 1) 0)) (μ 7) (μ 6) D U ∧ μ2 = ot_uc (ot_uc (ot_uc (ot_uc (ot_uc (ot_up μ 0 14 (μ 0 14 - 1)) 38 f) 39 z) 34 D) 35 U) 8 (up1 (μ 8) (μ 59 (μ 0 14 - 1)) (max (μ 8 (μ 59 (μ 0 14 - 1)) - 1) 0))) ∨ (μ 0 14 = 0 ∧ r = 0 ∧ μ2 = μ)))) := by
  refine ot_enter (by decide) (Nat.le_of_ble_eq_true rfl) ?_
  intro p e s m args below meth c X hr
  refine tt_aload_n X rfl dX9_undo_0 ?_
  refine tt_geti X fX9_89 (k_0 _ _) (by decide) (Or.inl rfl) dX9_undo_1 ?_
  refine tt_if_gt X 9 (by omega) dX9_undo_4 (by decide) (fun b4 => ?_) (fun b4 => ?_)
  · have hTt := hT (μ 0 14 - 1) (by omega) (by omega)
    refine tt_aload_n X rfl dX9_undo_9 ?_
    refine tt_dup X dX9_undo_10 ?_
    refine tt_geti X fX9_89 (k_0 _ _) (by decide) (Or.inl rfl) dX9_undo_11 ?_
    refine tt_iconst X dX9_undo_14 ?_
    refine tt_isub X dX9_undo_15 ?_
    refine tt_puti X fX9_89 kc_9 (k_0 _ _) (by decide) (fun q hq => by cases hq; rfl) rfl dX9_undo_16 ?_
    refine tt_aload_n X rfl dX9_undo_19 ?_
    refine tt_getr X fX9_24 (k_0 _ _) (by decide) ⟨nofun, nofun⟩ rfl dX9_undo_20 ?_
    refine tt_aload_n X rfl dX9_undo_23 ?_
    refine tt_getr X fX9_79 (k_0 _ _) (by decide) ⟨nofun, nofun⟩ rfl dX9_undo_24 ?_
    refine tt_aload_n X rfl dX9_undo_27 ?_
    refine tt_geti X fX9_89 (k_0 _ _) (by decide) (Or.inl rfl) dX9_undo_28 ?_
    try simp (disch := decide) only [ot_rd, ot_rs, ot_rf, ot_ucd, ot_ucs]
    refine tt_iaload X (k_59 _ _) (by first | omega | (simp (disch := decide) only [ot_rd, ot_rs, ot_rf, ot_ucd, ot_ucs]; omega)) dX9_undo_31 ?_
    try simp (disch := decide) only [ot_rd, ot_rs, ot_rf, ot_ucd, ot_ucs]
    refine tt_vv X rfl mX9_154 (c_goBack l g ln ext _ _ (by simp (disch := decide) only [ot_ucd, ot_ucs, ot_rd, ot_rs, ot_rf]; exact hG) (by simp (disch := decide) only [ot_ucd, ot_ucs, ot_rd, ot_rs, ot_rf]; exact hCh) (by simp (disch := decide) only [ot_ucd, ot_ucs, ot_rd, ot_rs, ot_rf]; exact hW) (by simp (disch := decide) only [ot_ucd, ot_ucs, ot_rd, ot_rs, ot_rf]; exact hCl) (by omega)) (k_33 _ _) ⟨_, rfl, rfl⟩ rfl rfl (Nat.le_of_ble_eq_true rfl) (by decide) (by decide) (by decide) dX9_undo_32 (fun L32 μ32 hp => ?_)
    obtain ⟨rfl, f, z, D, U, hc, hcl, rfl⟩ := hp
    simp (disch := decide) only [ot_ucd, ot_ucs, ot_rd, ot_rs, ot_rf] at hc hcl ⊢
    refine tt_iconst X dX9_undo_35 ?_
    refine tt_zret X ⟨hr.1, hr.2.1⟩ (by omega) (by decide) (by decide) dX9_undo_36 ?_
    first | exact ⟨rfl, Or.inr ⟨by omega, rfl, rfl⟩⟩ | exact ⟨rfl, Or.inl ⟨by omega, rfl, f, z, D, U, hc, hcl, rfl⟩⟩
  · refine tt_iconst X dX9_undo_7 ?_
    refine tt_zret X ⟨hr.1, hr.2.1⟩ (by omega) (by decide) (by decide) dX9_undo_8 ?_
    first | exact ⟨rfl, Or.inr ⟨by omega, rfl, rfl⟩⟩ | exact ⟨rfl, Or.inl ⟨by omega, rfl, f, z, D, U, hc, hcl, rfl⟩⟩
/-- LIKE -/
def likS (F : Int → Int) : Nat → Int
  | 0 => 0
  | n + 1 => if F ((n : Int) + 1) < F (likS F n) then (n : Int) + 1 else likS F n
set_option maxRecDepth 100000 in
set_option maxHeartbeats 1000000 in
theorem c_like (l : Launch) (g : ot_G) (ln : Nat) (ext : ot_L) (μ : ot_M) (hF : ∀ q, 0 ≤ q → q < 4 → gFar (μ 4) (μ 34) q) (hB : ∀ q, 0 ≤ q → q < 4 → 0 ≤ farS (μ 5) (μ 4) (μ 34) q ∧ farS (μ 5) (μ 4) (μ 34) q ≤ 2000000000) : ot_C l g yX9_like cX9_like 5 (some .int) 2 0 0 [.inr 0] (LL ln ext) μ (ot_pi (fun r L2 μ2 => L2 = LL ln ext ∧ μ2 = μ ∧ r = likS (farS (μ 5) (μ 4) (μ 34)) 3)) := by
  refine ot_enter (by decide) (Nat.le_of_ble_eq_true rfl) ?_
  intro p e s m args below meth c X hr
  refine tt_iconst X dX9_like_0 ?_
  refine tt_istore_n X dX9_like_1 (by decide) ?_
  refine tt_aload_n X rfl dX9_like_2 ?_
  refine tt_getr X fX9_24 (k_0 _ _) (by decide) ⟨nofun, nofun⟩ rfl dX9_like_3 ?_
  refine tt_iconst X dX9_like_6 ?_
  refine tt_vi X rfl mX9_207 (c_farOf l g ln ext _ 0 (by omega) (hF 0 (by omega) (by omega))) (k_33 _ _) ⟨_, rfl, rfl⟩ rfl rfl (Nat.le_of_ble_eq_true rfl) (by decide) (by decide) (by decide) dX9_like_7 (fun z7 L7 μ7 hp => ?_)
  obtain ⟨rfl, e7, hz7⟩ := hp
  replace e7 := e7.symm
  subst e7
  try simp (disch := decide) only [ot_rd, ot_rs, ot_rf, ot_ucd, ot_ucs] at hz7
  refine tt_istore_n X dX9_like_10 (by decide) ?_
  refine tt_iconst X dX9_like_11 ?_
  refine tt_istore_n X dX9_like_12 (by decide) ?_
  refine tt_loc [(0, _), (1, _), (2, _), (3, _)] ⟨rfl, rfl, rfl, rfl, trivial⟩ ?_
  refine tt_loop (α := Int × Int × Int) (fun ((q, b, y)) => (4 - q).toNat) (fun ((q, b, y)) => (1 ≤ q ∧ q ≤ 4) ∧ (0 ≤ b ∧ b < 4) ∧ b = likS (farS (μ 5) (μ 4) (μ 34)) (q - 1).toNat ∧ y = farS (μ 5) (μ 4) (μ 34) b) (fun ((q, b, y)) => μ) (fun ((q, b, y)) => [(0, .inr 0), (1, .inl b), (2, .inl y), (3, .inl q)]) (1, 0, z7) ⟨by show 1 ≤ (1 : Int) ∧ (1 : Int) ≤ 4; omega, by show 0 ≤ (0 : Int) ∧ (0 : Int) < 4; omega, rfl, hz7⟩ ?_
  intro a hI ih
  obtain ⟨q, b, y⟩ := a
  try dsimp only at hI ih ⊢
  replace hI : (1 ≤ q ∧ q ≤ 4) ∧ (0 ≤ b ∧ b < 4) ∧ b = likS (farS (μ 5) (μ 4) (μ 34)) (q - 1).toNat ∧ y = farS (μ 5) (μ 4) (μ 34) b := hI
  have hi := hI.1
  have hib := hI.2.1
  have hBb := hB b (by omega) (by omega)
  have hy := hI.2.2.2
  refine tt_iload_n X rfl dX9_like_13 ?_
  refine tt_iconst X dX9_like_14 ?_
  refine tt_icmp_ge X 45 (by first | omega | (simp (disch := decide) only [ot_rd, ot_rs, ot_rf, ot_ucd, ot_ucs]; omega)) dX9_like_15 (by decide) (fun b15 => ?_) (fun b15 => ?_)
  · refine tt_iload_n X rfl dX9_like_45 ?_
    refine tt_iret X ⟨hr.1, hr.2.1⟩ (by decide) (by decide) dX9_like_46 ?_
    refine ⟨rfl, rfl, ?_⟩
    rw [hI.2.2.1, show q = 4 by omega]
    rfl
  · have hBq := hB q (by omega) (by omega)
    refine tt_aload_n X rfl dX9_like_18 ?_
    refine tt_getr X fX9_24 (k_0 _ _) (by decide) ⟨nofun, nofun⟩ rfl dX9_like_19 ?_
    refine tt_iload_n X rfl dX9_like_22 ?_
    refine tt_vi X rfl mX9_207 (c_farOf l g ln ext _ q (by omega) (hF q (by omega) (by omega))) (k_33 _ _) ⟨_, rfl, rfl⟩ rfl rfl (Nat.le_of_ble_eq_true rfl) (by decide) (by decide) (by decide) dX9_like_23 (fun z23 L23 μ23 hp => ?_)
    obtain ⟨rfl, e23, hz23⟩ := hp
    replace e23 := e23.symm
    subst e23
    try simp (disch := decide) only [ot_rd, ot_rs, ot_rf, ot_ucd, ot_ucs] at hz23
    refine tt_istore X dX9_like_26 (by decide) ?_
    refine tt_iload X rfl dX9_like_28 ?_
    refine tt_iload_n X rfl dX9_like_30 ?_
    refine tt_icmp_ge X 39 (by first | omega | (simp (disch := decide) only [ot_rd, ot_rs, ot_rf, ot_ucd, ot_ucs]; omega)) dX9_like_31 (by decide) (fun b31 => ?_) (fun b31 => ?_)
    · refine tt_iinc X dX9_like_39 rfl (by decide) ?_
      refine tt_goto X 13 dX9_like_42 (by decide) ?_
      refine tt_loc [(0, _), (1, _), (2, _), (3, _)] ⟨rfl, rfl, rfl, rfl, trivial⟩ ?_
      have hl : likS (farS (μ 5) (μ 4) (μ 34)) (q + 1 - 1).toNat = if farS (μ 5) (μ 4) (μ 34) q < farS (μ 5) (μ 4) (μ 34) b then q else b := by
        rw [show (q + 1 - 1).toNat = (q - 1).toNat + 1 by omega]
        show (if farS (μ 5) (μ 4) (μ 34) (((q - 1).toNat : Int) + 1) < farS (μ 5) (μ 4) (μ 34) (likS (farS (μ 5) (μ 4) (μ 34)) (q - 1).toNat) then (((q - 1).toNat : Int) + 1) else likS (farS (μ 5) (μ 4) (μ 34)) (q - 1).toNat) = _
        rw [← hI.2.2.1, show (((q - 1).toNat : Int) + 1) = q by omega]
      first
        | exact ih (q + 1, q, _) ⟨by show 1 ≤ q + 1 ∧ q + 1 ≤ 4; omega, by show 0 ≤ q ∧ q < 4; omega, by show q = _; rw [hl, if_pos (by omega)], by assumption⟩ (by show (4 - (q + 1)).toNat < (4 - q).toNat; omega)
        | exact ih (q + 1, b, y) ⟨by show 1 ≤ q + 1 ∧ q + 1 ≤ 4; omega, hI.2.1, by show b = _; rw [hl, if_neg (by omega)], hy⟩ (by show (4 - (q + 1)).toNat < (4 - q).toNat; omega)
    · refine tt_iload X rfl dX9_like_34 ?_
      refine tt_istore_n X dX9_like_36 (by decide) ?_
      refine tt_iload_n X rfl dX9_like_37 ?_
      refine tt_istore_n X dX9_like_38 (by decide) ?_
      refine tt_iinc X dX9_like_39 rfl (by decide) ?_
      refine tt_goto X 13 dX9_like_42 (by decide) ?_
      refine tt_loc [(0, _), (1, _), (2, _), (3, _)] ⟨rfl, rfl, rfl, rfl, trivial⟩ ?_
      have hl : likS (farS (μ 5) (μ 4) (μ 34)) (q + 1 - 1).toNat = if farS (μ 5) (μ 4) (μ 34) q < farS (μ 5) (μ 4) (μ 34) b then q else b := by
        rw [show (q + 1 - 1).toNat = (q - 1).toNat + 1 by omega]
        show (if farS (μ 5) (μ 4) (μ 34) (((q - 1).toNat : Int) + 1) < farS (μ 5) (μ 4) (μ 34) (likS (farS (μ 5) (μ 4) (μ 34)) (q - 1).toNat) then (((q - 1).toNat : Int) + 1) else likS (farS (μ 5) (μ 4) (μ 34)) (q - 1).toNat) = _
        rw [← hI.2.2.1, show (((q - 1).toNat : Int) + 1) = q by omega]
      first
        | exact ih (q + 1, q, _) ⟨by show 1 ≤ q + 1 ∧ q + 1 ≤ 4; omega, by show 0 ≤ q ∧ q < 4; omega, by show q = _; rw [hl, if_pos (by omega)], by assumption⟩ (by show (4 - (q + 1)).toNat < (4 - q).toNat; omega)
        | exact ih (q + 1, b, y) ⟨by show 1 ≤ q + 1 ∧ q + 1 ≤ 4; omega, hI.2.1, by show b = _; rw [hl, if_neg (by omega)], hy⟩ (by show (4 - (q + 1)).toNat < (4 - q).toNat; omega)

theorem ot_uc8 {μ : ot_M} {f z D U f2 z2 D2 U2 : Int → Int} : ot_uc (ot_uc (ot_uc (ot_uc (ot_uc (ot_uc (ot_uc (ot_uc μ 38 f) 39 z) 34 D) 35 U) 38 f2) 39 z2) 34 D2) 35 U2 = ot_uc (ot_uc (ot_uc (ot_uc μ 38 f2) 39 z2) 34 D2) 35 U2 := by
  funext k j
  by_cases h1 : k = 35
  · simp [ot_uc, h1]
  · by_cases h2 : k = 34
    · simp [ot_uc, h2]
    · by_cases h3 : k = 39
      · simp [ot_uc, h3]
      · by_cases h4 : k = 38
        · simp [ot_uc, h4]
        · simp [ot_uc, h1, h2, h3, h4]
theorem ot_cl0 {μ : ot_M} {D U : Int → Int} : ot_uc (ot_uc μ 34 D) 35 U = ot_uc (ot_uc (ot_uc (ot_uc μ 38 (μ 38)) 39 (μ 39)) 34 D) 35 U := by rw [← ot_memCS]
theorem up1_wr {n h : Int} {old new : Int → Int} {v : Int} (hh : 0 ≤ h ∧ h < n) : up1 (wr n old new) h (wr n old new h + v) = wr n old (fun j => new j + (if h = j then v else 0)) := by
  funext j
  by_cases hj : j = h
  · subst hj; rw [up1_s, wr_in hh, wr_in hh, if_pos rfl]
  · rw [up1_n hj]
    by_cases h2 : 0 ≤ j ∧ j < n
    · rw [wr_in h2, wr_in h2, if_neg (Ne.symm hj)]; omega
    · rw [wr_out h2, wr_out h2]
set_option maxRecDepth 100000 in
set_option maxHeartbeats 1000000 in
theorem c_lay (l : Launch) (g : ot_G) (ln : Nat) (ext : ot_L) (μ : ot_M) (t a b x : Int) (hG : gPin (μ 1 11) (μ 1 12) (μ 2) (μ 3)) (hCh : gChd (μ 1 11) (μ 1 12) (μ 2) (μ 3) (μ 38) (μ 39)) (ht : 0 ≤ t ∧ t < 3) (ha : 0 ≤ a ∧ a < μ 1 12) (hb : 0 ≤ b ∧ b < μ 1 12) (hab : a ≠ b)  : ot_C l g yX1_lay cX1_lay 8 none 4 0 0 [.inr 33, .inl t, .inl a, .inl b, .inl x] (LL ln ext) μ (ot_pv (fun L2 μ2 => L2 = LL ln ext ∧ ∃ f z, gChd (μ 1 11) (μ 1 12) (μ 2) (μ 3) f z ∧ μ2 = ot_uc (ot_uc (ot_uc (ot_uc μ 38 f) 39 z) 34 (wr 64 (μ 34) (fun k => μ 34 k + μ 6 t * x * smp (μ 1 11) (μ 2) (μ 3) a b k))) 35 (up1 (μ 35) (chN a b) (μ 35 (chN a b) + x)))) := by
  refine ot_enter (by decide) (Nat.le_of_ble_eq_true rfl) ?_
  intro p e s m args below meth c X hr
  have hNn := hG.2.1
  have hch := chN_in (a := a) (b := b) (by omega) (by omega) (by omega)
  refine tt_aload_n X rfl dX1_lay_0 ?_
  refine tt_getr X fX1_32 (k_33 _ _) (by decide) ⟨nofun, nofun⟩ rfl dX1_lay_1 ?_
  refine tt_iload_n X rfl dX1_lay_4 ?_
  refine tt_iload_n X rfl dX1_lay_5 ?_
  refine tt_vi X rfl mX1_60 (c_measured l g ln ext _ _ _ hG hCh ha hb hab) (k_37 _ _) ⟨_, rfl, rfl⟩ rfl rfl (Nat.le_of_ble_eq_true rfl) (by decide) (by decide) (by decide) dX1_lay_6 (fun z6 L6 μ6 hp => ?_)
  obtain ⟨rfl, hz6, f, z, rfl, hcf, hrow⟩ := hp
  subst hz6
  have hr1 := hrow.1
  try simp (disch := decide) only [ot_rd, ot_rs, ot_rf, ot_ucd, ot_ucs] at hz6
  refine tt_istore X dX1_lay_9 (by decide) ?_
  refine tt_aload_n X rfl dX1_lay_11 ?_
  refine tt_getr X fX1_25 (k_33 _ _) (by decide) ⟨nofun, nofun⟩ rfl dX1_lay_12 ?_
  refine tt_getr X fX1_64 (k_1 _ _) (by decide) ⟨nofun, nofun⟩ rfl dX1_lay_15 ?_
  refine tt_iload_n X rfl dX1_lay_18 ?_
  refine tt_iaload X (k_6 _ _) (by first | omega | (simp (disch := decide) only [ot_rd, ot_rs, ot_rf, ot_ucd, ot_ucs]; omega)) dX1_lay_19 ?_
  try simp (disch := decide) only [ot_rd, ot_rs, ot_rf, ot_ucd, ot_ucs]
  refine tt_iload X rfl dX1_lay_20 ?_
  refine tt_imul X dX1_lay_22 ?_
  refine tt_istore X dX1_lay_23 (by decide) ?_
  refine tt_iconst X dX1_lay_25 ?_
  refine tt_istore X dX1_lay_26 (by decide) ?_
  refine tt_mem (μ' := ot_uc (ot_uc (ot_uc μ 38 f) 39 z) 34 (wr 64 (μ 34) (fun k => μ 34 k + μ 6 t * x * clS f (chN a b * 16) k ((0 : Int)).toNat))) (by rw [show (fun k => μ 34 k + μ 6 t * x * clS f (chN a b * 16) k ((0 : Int)).toNat) = μ 34 from funext fun k => by simp [clS, sumN], show wr 64 (μ 34) (μ 34) = μ 34 from funext fun k => by simp [wr], show ot_uc (ot_uc (ot_uc μ 38 f) 39 z) 34 (μ 34) = ot_uc (ot_uc μ 38 f) 39 z from by funext k j; by_cases h1 : k = 34 <;> simp [ot_uc, h1]]) ?_
  refine tt_loc [(0, _), (4, _), (5, _), (6, _), (7, _)] ⟨rfl, rfl, rfl, rfl, rfl, trivial⟩ ?_
  refine tt_loop (α := Int) (fun i => (z (chN a b) - i).toNat) (fun i => 0 ≤ i ∧ i ≤ z (chN a b)) (fun i => ot_uc (ot_uc (ot_uc μ 38 f) 39 z) 34 (wr 64 (μ 34) (fun k => μ 34 k + μ 6 t * x * clS f (chN a b * 16) k (i).toNat))) (fun i => [(0, .inr 33), (4, .inl x), (5, .inl (chN a b)), (6, .inl (μ 6 t * x)), (7, .inl i)]) 0 (by omega) ?_
  intro i hI ih
  try dsimp only at hI ih ⊢
  refine tt_iload X rfl dX1_lay_28 ?_
  refine tt_aload_n X rfl dX1_lay_30 ?_
  refine tt_getr X fX1_32 (k_33 _ _) (by decide) ⟨nofun, nofun⟩ rfl dX1_lay_31 ?_
  refine tt_iload X rfl dX1_lay_34 ?_
  refine tt_vi X rfl mX1_67 (c_sizeOf l g ln ext _ _ (by omega)) (k_37 _ _) ⟨_, rfl, rfl⟩ rfl rfl (Nat.le_of_ble_eq_true rfl) (by decide) (by decide) (by decide) dX1_lay_36 (fun z36 L36 μ36 hp => ?_)
  obtain ⟨rfl, e36, hz36⟩ := hp
  replace e36 := e36.symm
  subst e36
  simp (disch := decide) only [ot_ucd, ot_ucs, ot_rd, ot_rs] at hz36
  refine tt_top hz36 ?_
  try simp (disch := decide) only [ot_rd, ot_rs, ot_rf, ot_ucd, ot_ucs] at hz36
  refine tt_icmp_ge X 81 (by first | omega | (simp (disch := decide) only [ot_rd, ot_rs, ot_rf, ot_ucd, ot_ucs]; omega)) dX1_lay_39 (by decide) (fun b39 => ?_) (fun b39 => ?_)
  · refine tt_aload_n X rfl dX1_lay_81 ?_
    refine tt_getr X fX1_17 (k_33 _ _) (by decide) ⟨nofun, nofun⟩ rfl dX1_lay_82 ?_
    refine tt_iload X rfl dX1_lay_85 ?_
    refine tt_dup2 X dX1_lay_87 ?_
    refine tt_iaload X (k_35 _ _) (by first | omega | (simp (disch := decide) only [ot_rd, ot_rs, ot_rf, ot_ucd, ot_ucs]; omega)) dX1_lay_88 ?_
    try simp (disch := decide) only [ot_rd, ot_rs, ot_rf, ot_ucd, ot_ucs]
    refine tt_iload X rfl dX1_lay_89 ?_
    refine tt_iadd X dX1_lay_91 ?_
    refine tt_iastore X (k_35 _ _) (by first | omega | (simp (disch := decide) only [ot_rd, ot_rs, ot_rf, ot_ucd, ot_ucs]; omega)) dX1_lay_92 ?_
    refine tt_vret X ⟨hr.1, hr.2.1⟩ (by decide) (by decide) dX1_lay_93 ?_
    refine ⟨rfl, f, z, hcf, ?_⟩
    rw [ot_up_uc]
    simp (disch := decide) only [ot_ucd, ot_ucs, ot_rd, ot_rs]
    rw [show i = z (chN a b) by omega]
    rw [show (fun k => μ 34 k + μ 6 t * x * smp (μ 1 11) (μ 2) (μ 3) a b k) = (fun k => μ 34 k + μ 6 t * x * clS f (chN a b * 16) k (z (chN a b)).toNat) from funext fun k => by rw [gRow_smp hrow k]]
  · have hrc := hrow.2.1 i (by omega) (by omega)
    refine tt_aload_n X rfl dX1_lay_42 ?_
    refine tt_getr X fX1_9 (k_33 _ _) (by decide) ⟨nofun, nofun⟩ rfl dX1_lay_43 ?_
    refine tt_aload_n X rfl dX1_lay_46 ?_
    refine tt_getr X fX1_32 (k_33 _ _) (by decide) ⟨nofun, nofun⟩ rfl dX1_lay_47 ?_
    refine tt_iload X rfl dX1_lay_50 ?_
    refine tt_iload X rfl dX1_lay_52 ?_
    refine tt_vi X rfl mX1_71 (c_squareOf l g ln ext _ _ _ (by omega) (by omega) (by simp (disch := decide) only [ot_ucd, ot_ucs, ot_rd, ot_rs]; exact hrc.1)) (k_37 _ _) ⟨_, rfl, rfl⟩ rfl rfl (Nat.le_of_ble_eq_true rfl) (by decide) (by decide) (by decide) dX1_lay_54 (fun z54 L54 μ54 hp => ?_)
    obtain ⟨rfl, e54, hz54⟩ := hp
    replace e54 := e54.symm
    subst e54
    simp (disch := decide) only [ot_ucd, ot_ucs, ot_rd, ot_rs] at hz54
    try simp (disch := decide) only [ot_rd, ot_rs, ot_rf, ot_ucd, ot_ucs] at hz54
    refine tt_dup2 X dX1_lay_57 ?_
    refine tt_iaload X (k_34 _ _) (by first | omega | (simp (disch := decide) only [ot_rd, ot_rs, ot_rf, ot_ucd, ot_ucs]; omega)) dX1_lay_58 ?_
    try simp (disch := decide) only [ot_rd, ot_rs, ot_rf, ot_ucd, ot_ucs]
    refine tt_iload X rfl dX1_lay_59 ?_
    refine tt_aload_n X rfl dX1_lay_61 ?_
    refine tt_getr X fX1_32 (k_33 _ _) (by decide) ⟨nofun, nofun⟩ rfl dX1_lay_62 ?_
    refine tt_iload X rfl dX1_lay_65 ?_
    refine tt_iload X rfl dX1_lay_67 ?_
    refine tt_vi X rfl mX1_74 (c_middlesOf l g ln ext _ _ _ (by omega) (by omega) (by simp (disch := decide) only [ot_ucd, ot_ucs, ot_rd, ot_rs]; exact hrc.1)) (k_37 _ _) ⟨_, rfl, rfl⟩ rfl rfl (Nat.le_of_ble_eq_true rfl) (by decide) (by decide) (by decide) dX1_lay_69 (fun z69 L69 μ69 hp => ?_)
    obtain ⟨rfl, e69, hz69⟩ := hp
    replace e69 := e69.symm
    subst e69
    simp (disch := decide) only [ot_ucd, ot_ucs, ot_rd, ot_rs] at hz69
    try simp (disch := decide) only [ot_rd, ot_rs, ot_rf, ot_ucd, ot_ucs] at hz69
    refine tt_imul X dX1_lay_72 ?_
    refine tt_iadd X dX1_lay_73 ?_
    refine tt_iastore X (k_34 _ _) (by first | omega | (simp (disch := decide) only [ot_rd, ot_rs, ot_rf, ot_ucd, ot_ucs]; omega)) dX1_lay_74 ?_
    refine tt_iinc X dX1_lay_75 rfl (by decide) ?_
    refine tt_goto X 28 dX1_lay_78 (by decide) ?_
    refine tt_loc [(0, _), (4, _), (5, _), (6, _), (7, _)] ⟨rfl, rfl, rfl, rfl, rfl, trivial⟩ ?_
    refine tt_mem (μ' := ot_uc (ot_uc (ot_uc μ 38 f) 39 z) 34 (wr 64 (μ 34) (fun k => μ 34 k + μ 6 t * x * clS f (chN a b * 16) k (i + 1).toNat))) ?_ ?_
    · rw [ot_uc_up]
      refine ot_uc_eq (fun j => ?_)
      have e := sumN_toNat (fun c => if f (chN a b * 16 + c) / 16 = j then f (chN a b * 16 + c) % 16 else 0) hI.1
      by_cases hj : j = z54
      · rw [if_pos hj, hj, wr_in (by omega), wr_in (by omega)]
        rw [hj] at e
        rw [if_pos hz54.symm] at e
        simp only [clS]
        rw [e, hz69, Int.mul_add]
        omega
      · rw [if_neg hj]
        by_cases h64 : 0 ≤ j ∧ j < 64
        · rw [wr_in h64, wr_in h64]
          rw [if_neg (fun q => hj (by omega))] at e
          simp only [clS]
          rw [e, Int.add_zero]
        · rw [wr_out h64, wr_out h64]
    exact ih (i + 1) (by omega) (by omega)
set_option maxRecDepth 100000 in
set_option maxHeartbeats 1000000 in
theorem c_tally (l : Launch) (g : ot_G) (ln : Nat) (ext : ot_L) (μ : ot_M) (hG : gPin (μ 1 11) (μ 1 12) (μ 2) (μ 3)) (hCh : gChd (μ 1 11) (μ 1 12) (μ 2) (μ 3) (μ 38) (μ 39)) (hW : gWnd (μ 1 12) (μ 8) (μ 7))  : ot_C l g yX1_tally cX1_tally 4 none 5 0 0 [.inr 33] (LL ln ext) μ (ot_pv (fun L2 μ2 => L2 = LL ln ext ∧ ∃ f z, gChd (μ 1 11) (μ 1 12) (μ 2) (μ 3) f z ∧ μ2 = ot_uc (ot_uc (ot_uc (ot_uc μ 38 f) 39 z) 34 (wr 64 (μ 34) (dk (μ 1 11) (μ 2) (μ 3) (μ 8) (μ 7) (μ 6)))) 35 (wr 276 (μ 35) (usC (μ 8) (μ 7))))) := by
  refine ot_enter (by decide) (Nat.le_of_ble_eq_true rfl) ?_
  intro p e s m args below meth c X hr
  have hNn := hG.2.1
  refine tt_aload_n X rfl dX1_tally_0 ?_
  refine tt_getr X fX1_9 (k_33 _ _) (by decide) ⟨nofun, nofun⟩ rfl dX1_tally_1 ?_
  refine tt_iconst X dX1_tally_4 ?_
  refine tt_sv X rfl mX1_42 (c_fill l g ln ext _ (rs := []) 34 64 _ (k_34 _ _) (by decide)) rfl rfl (Nat.le_of_ble_eq_true rfl) (by decide) (by decide) (by decide) dX1_tally_5 (fun L5 μ5 hp => ?_)
  obtain ⟨rfl, rfl⟩ := hp
  refine tt_aload_n X rfl dX1_tally_8 ?_
  refine tt_getr X fX1_17 (k_33 _ _) (by decide) ⟨nofun, nofun⟩ rfl dX1_tally_9 ?_
  refine tt_iconst X dX1_tally_12 ?_
  refine tt_sv X rfl mX1_42 (c_fill l g ln ext _ (rs := []) 35 276 _ (k_35 _ _) (by decide)) rfl rfl (Nat.le_of_ble_eq_true rfl) (by decide) (by decide) (by decide) dX1_tally_13 (fun L13 μ13 hp => ?_)
  obtain ⟨rfl, rfl⟩ := hp
  refine tt_iconst X dX1_tally_16 ?_
  refine tt_istore_n X dX1_tally_17 (by decide) ?_
  refine tt_mem (μ' := ot_uc (ot_uc (ot_uc (ot_uc μ 38 (μ 38)) 39 (μ 39)) 34 (wr 64 (μ 34) (fun k => sumN (fun t => dkT (μ 1 11) (μ 2) (μ 3) (μ 8) (μ 7) (μ 6) t k (μ 8 t - 1).toNat) (0 : Int).toNat))) 35 (wr 276 (μ 35) (fun h => sumN (fun t => sumN (fun i => if chN (μ 7 (120 * t + i)) (μ 7 (120 * t + i + 1)) = h then 1 else 0) (μ 8 t - 1).toNat) (0 : Int).toNat))) (by rw [← ot_cl0]; rfl) ?_
  refine tt_loc [(0, _), (1, _)] ⟨rfl, rfl, trivial⟩ ?_
  refine tt_loop (α := Int × (Int → Int) × (Int → Int)) (fun ((t, f, z)) => (3 - t).toNat) (fun ((t, f, z)) => (0 ≤ t ∧ t ≤ 3) ∧ gChd (μ 1 11) (μ 1 12) (μ 2) (μ 3) f z) (fun ((t, f, z)) => ot_uc (ot_uc (ot_uc (ot_uc μ 38 f) 39 z) 34 (wr 64 (μ 34) (fun k => sumN (fun t => dkT (μ 1 11) (μ 2) (μ 3) (μ 8) (μ 7) (μ 6) t k (μ 8 t - 1).toNat) (t : Int).toNat))) 35 (wr 276 (μ 35) (fun h => sumN (fun t => sumN (fun i => if chN (μ 7 (120 * t + i)) (μ 7 (120 * t + i + 1)) = h then 1 else 0) (μ 8 t - 1).toNat) (t : Int).toNat))) (fun ((t, f, z)) => [(0, .inr 33), (1, .inl t)]) (0, μ 38, μ 39) ⟨by show 0 ≤ (0 : Int) ∧ (0 : Int) ≤ 3; omega, hCh⟩ ?_
  intro a hIt iht
  obtain ⟨t, f, z⟩ := a
  try dsimp only at hIt iht ⊢
  replace hIt : (0 ≤ t ∧ t ≤ 3) ∧ gChd (μ 1 11) (μ 1 12) (μ 2) (μ 3) f z := hIt
  have ht := hIt.1
  refine tt_iload_n X rfl dX1_tally_18 ?_
  refine tt_iconst X dX1_tally_19 ?_
  refine tt_icmp_ge X 85 (by first | omega | (simp (disch := decide) only [ot_rd, ot_rs, ot_rf, ot_ucd, ot_ucs]; omega)) dX1_tally_20 (by decide) (fun b20 => ?_) (fun b20 => ?_)
  · refine tt_vret X ⟨hr.1, hr.2.1⟩ (by decide) (by decide) dX1_tally_85 ?_
    refine ⟨rfl, f, z, hIt.2, ?_⟩
    rw [show t = 3 by omega]
    rfl
  · refine tt_iload_n X rfl dX1_tally_23 ?_
    refine tt_bipush X (by decide) dX1_tally_24 ?_
    refine tt_imul X dX1_tally_26 ?_
    refine tt_istore_n X dX1_tally_27 (by decide) ?_
    refine tt_iconst X dX1_tally_28 ?_
    refine tt_istore_n X dX1_tally_29 (by decide) ?_
    have hWt := hW t (by omega) (by omega)
    refine tt_mem (μ' := ot_uc (ot_uc (ot_uc (ot_uc μ 38 f) 39 z) 34 (wr 64 (μ 34) (fun k => sumN (fun t => dkT (μ 1 11) (μ 2) (μ 3) (μ 8) (μ 7) (μ 6) t k (μ 8 t - 1).toNat) (t : Int).toNat + dkT (μ 1 11) (μ 2) (μ 3) (μ 8) (μ 7) (μ 6) t k ((1 - 1) : Int).toNat))) 35 (wr 276 (μ 35) (fun h => sumN (fun t => sumN (fun i => if chN (μ 7 (120 * t + i)) (μ 7 (120 * t + i + 1)) = h then 1 else 0) (μ 8 t - 1).toNat) (t : Int).toNat + sumN (fun i => if chN (μ 7 (120 * t + i)) (μ 7 (120 * t + i + 1)) = h then 1 else 0) ((1 - 1) : Int).toNat))) (by simp [dkT, sumN]) ?_
    refine tt_loc [(0, _), (1, _), (2, _), (3, _)] ⟨rfl, rfl, rfl, rfl, trivial⟩ ?_
    refine tt_loop (α := Int × (Int → Int) × (Int → Int)) (fun ((i, f, z)) => (μ 8 t - i).toNat) (fun ((i, f, z)) => (1 ≤ i ∧ (i ≤ μ 8 t ∨ (i = 1 ∧ μ 8 t = 0))) ∧ gChd (μ 1 11) (μ 1 12) (μ 2) (μ 3) f z) (fun ((i, f, z)) => ot_uc (ot_uc (ot_uc (ot_uc μ 38 f) 39 z) 34 (wr 64 (μ 34) (fun k => sumN (fun t => dkT (μ 1 11) (μ 2) (μ 3) (μ 8) (μ 7) (μ 6) t k (μ 8 t - 1).toNat) (t : Int).toNat + dkT (μ 1 11) (μ 2) (μ 3) (μ 8) (μ 7) (μ 6) t k ((i - 1) : Int).toNat))) 35 (wr 276 (μ 35) (fun h => sumN (fun t => sumN (fun i => if chN (μ 7 (120 * t + i)) (μ 7 (120 * t + i + 1)) = h then 1 else 0) (μ 8 t - 1).toNat) (t : Int).toNat + sumN (fun i => if chN (μ 7 (120 * t + i)) (μ 7 (120 * t + i + 1)) = h then 1 else 0) ((i - 1) : Int).toNat))) (fun ((i, f, z)) => [(0, .inr 33), (1, .inl t), (2, .inl (t * 120)), (3, .inl i)]) (1, f, z) ⟨by show 1 ≤ (1 : Int) ∧ ((1 : Int) ≤ μ 8 t ∨ ((1 : Int) = 1 ∧ μ 8 t = 0)); omega, hIt.2⟩ ?_
    intro a hI ih
    obtain ⟨i, f, z⟩ := a
    try dsimp only at hI ih ⊢
    replace hI : (1 ≤ i ∧ (i ≤ μ 8 t ∨ (i = 1 ∧ μ 8 t = 0))) ∧ gChd (μ 1 11) (μ 1 12) (μ 2) (μ 3) f z := hI
    have hi := hI.1
    refine tt_iload_n X rfl dX1_tally_30 ?_
    refine tt_aload_n X rfl dX1_tally_31 ?_
    refine tt_getr X fX1_25 (k_33 _ _) (by decide) ⟨nofun, nofun⟩ rfl dX1_tally_32 ?_
    refine tt_getr X fX1_48 (k_1 _ _) (by decide) ⟨nofun, nofun⟩ rfl dX1_tally_35 ?_
    refine tt_iload_n X rfl dX1_tally_38 ?_
    refine tt_iaload X (k_8 _ _) (by first | omega | (simp (disch := decide) only [ot_rd, ot_rs, ot_rf, ot_ucd, ot_ucs]; omega)) dX1_tally_39 ?_
    try simp (disch := decide) only [ot_rd, ot_rs, ot_rf, ot_ucd, ot_ucs]
    refine tt_icmp_ge X 79 (by first | omega | (simp (disch := decide) only [ot_rd, ot_rs, ot_rf, ot_ucd, ot_ucs]; omega)) dX1_tally_40 (by decide) (fun b40 => ?_) (fun b40 => ?_)
    · refine tt_iinc X dX1_tally_79 rfl (by decide) ?_
      refine tt_goto X 18 dX1_tally_82 (by decide) ?_
      refine tt_loc [(0, _), (1, _)] ⟨rfl, rfl, trivial⟩ ?_
      refine tt_mem (μ' := ot_uc (ot_uc (ot_uc (ot_uc μ 38 f) 39 z) 34 (wr 64 (μ 34) (fun k => sumN (fun t => dkT (μ 1 11) (μ 2) (μ 3) (μ 8) (μ 7) (μ 6) t k (μ 8 t - 1).toNat) ((t + 1) : Int).toNat))) 35 (wr 276 (μ 35) (fun h => sumN (fun t => sumN (fun i => if chN (μ 7 (120 * t + i)) (μ 7 (120 * t + i + 1)) = h then 1 else 0) (μ 8 t - 1).toNat) ((t + 1) : Int).toNat))) ?_ ?_
      · congr 1
        · congr 1
          refine wr_congr (fun k _ _ => ?_)
          rw [sumN_toNat _ hIt.1.1]
          rcases (show i - 1 = μ 8 t - 1 ∨ (μ 8 t = 0 ∧ i = 1) by omega) with q | q
          · rw [q]
          · rw [q.1, q.2]; rfl
        · refine wr_congr (fun h _ _ => ?_)
          rw [sumN_toNat _ hIt.1.1]
          rcases (show i - 1 = μ 8 t - 1 ∨ (μ 8 t = 0 ∧ i = 1) by omega) with q | q
          · rw [q]
          · rw [q.1, q.2]; rfl
      exact iht (t + 1, f, z) ⟨by show 0 ≤ t + 1 ∧ t + 1 ≤ 3; omega, hI.2⟩ (by show (3 - (t + 1)).toNat < (3 - t).toNat; omega)
    · have hw1 := hWt.2.1 (i - 1) (by omega) (by omega)
      have hw2 := hWt.2.1 i (by omega) (by omega)
      have hw3 := hWt.2.2 (i - 1) (by omega) (by omega)
      rw [show 120 * t + (i - 1) + 1 = 120 * t + i by omega] at hw3
      have hch := chN_in (a := μ 7 (120 * t + (i - 1))) (b := μ 7 (120 * t + i)) (by omega) (by omega) hw3
      refine tt_aload_n X rfl dX1_tally_43 ?_
      refine tt_iload_n X rfl dX1_tally_44 ?_
      refine tt_aload_n X rfl dX1_tally_45 ?_
      refine tt_getr X fX1_25 (k_33 _ _) (by decide) ⟨nofun, nofun⟩ rfl dX1_tally_46 ?_
      refine tt_getr X fX1_53 (k_1 _ _) (by decide) ⟨nofun, nofun⟩ rfl dX1_tally_49 ?_
      refine tt_iload_n X rfl dX1_tally_52 ?_
      refine tt_iload_n X rfl dX1_tally_53 ?_
      refine tt_iadd X dX1_tally_54 ?_
      refine tt_iconst X dX1_tally_55 ?_
      refine tt_isub X dX1_tally_56 ?_
      refine tt_iaload X (k_7 _ _) (by first | omega | (simp (disch := decide) only [ot_rd, ot_rs, ot_rf, ot_ucd, ot_ucs]; omega)) dX1_tally_57 ?_
      try simp (disch := decide) only [ot_rd, ot_rs, ot_rf, ot_ucd, ot_ucs]
      refine tt_top (show _ = μ 7 (120 * t + (i - 1)) by rw [show t * 120 + i - 1 = 120 * t + (i - 1) by omega]) ?_
      refine tt_aload_n X rfl dX1_tally_58 ?_
      refine tt_getr X fX1_25 (k_33 _ _) (by decide) ⟨nofun, nofun⟩ rfl dX1_tally_59 ?_
      refine tt_getr X fX1_53 (k_1 _ _) (by decide) ⟨nofun, nofun⟩ rfl dX1_tally_62 ?_
      refine tt_iload_n X rfl dX1_tally_65 ?_
      refine tt_iload_n X rfl dX1_tally_66 ?_
      refine tt_iadd X dX1_tally_67 ?_
      refine tt_iaload X (k_7 _ _) (by first | omega | (simp (disch := decide) only [ot_rd, ot_rs, ot_rf, ot_ucd, ot_ucs]; omega)) dX1_tally_68 ?_
      try simp (disch := decide) only [ot_rd, ot_rs, ot_rf, ot_ucd, ot_ucs]
      refine tt_top (show _ = μ 7 (120 * t + i) by rw [show t * 120 + i = 120 * t + i by omega]) ?_
      refine tt_iconst X dX1_tally_69 ?_
      refine tt_vv X rfl mX1_56 (c_lay l g ln ext _ _ _ _ _ (by simp (disch := decide) only [ot_ucd, ot_ucs, ot_rd, ot_rs]; exact hG) (by simp (disch := decide) only [ot_ucd, ot_ucs, ot_rd, ot_rs]; exact hI.2) (by omega) (by simp (disch := decide) only [ot_ucd, ot_ucs, ot_rd, ot_rs]; exact hw1) (by simp (disch := decide) only [ot_ucd, ot_ucs, ot_rd, ot_rs]; exact hw2) hw3) (k_33 _ _) ⟨_, rfl, rfl⟩ rfl rfl (Nat.le_of_ble_eq_true rfl) (by decide) (by decide) (by decide) dX1_tally_70 (fun L70 μ70 hp => ?_)
      obtain ⟨rfl, f2, z2, hc2, rfl⟩ := hp
      simp (disch := decide) only [ot_ucd, ot_ucs, ot_rd, ot_rs] at hc2 ⊢
      refine tt_iinc X dX1_tally_73 rfl (by decide) ?_
      refine tt_goto X 30 dX1_tally_76 (by decide) ?_
      refine tt_loc [(0, _), (1, _), (2, _), (3, _)] ⟨rfl, rfl, rfl, rfl, trivial⟩ ?_
      refine tt_mem (μ' := ot_uc (ot_uc (ot_uc (ot_uc μ 38 f2) 39 z2) 34 (wr 64 (μ 34) (fun k => sumN (fun t => dkT (μ 1 11) (μ 2) (μ 3) (μ 8) (μ 7) (μ 6) t k (μ 8 t - 1).toNat) (t : Int).toNat + dkT (μ 1 11) (μ 2) (μ 3) (μ 8) (μ 7) (μ 6) t k ((i + 1 - 1) : Int).toNat))) 35 (wr 276 (μ 35) (fun h => sumN (fun t => sumN (fun i => if chN (μ 7 (120 * t + i)) (μ 7 (120 * t + i + 1)) = h then 1 else 0) (μ 8 t - 1).toNat) (t : Int).toNat + sumN (fun i => if chN (μ 7 (120 * t + i)) (μ 7 (120 * t + i + 1)) = h then 1 else 0) ((i + 1 - 1) : Int).toNat))) ?_ ?_
      · rw [ot_uc8, wr_wr]
        congr 1
        · congr 1
          refine wr_congr (fun k h1 h2 => ?_)
          rw [wr_in ⟨h1, h2⟩]
          have e := sumN_toNat (fun i => μ 6 t * smp (μ 1 11) (μ 2) (μ 3) (μ 7 (120 * t + i)) (μ 7 (120 * t + i + 1)) k) (show 0 ≤ i - 1 by omega)
          simp only [dkT] at e ⊢
          rw [show i - 1 + 1 = i by omega, show 120 * t + (i - 1) + 1 = 120 * t + i by omega] at e
          rw [show i + 1 - 1 = i by omega, e, Int.mul_one]
          omega
        · rw [up1_wr hch]
          refine wr_congr (fun h h1 h2 => ?_)
          have e := sumN_toNat (fun i => if chN (μ 7 (120 * t + i)) (μ 7 (120 * t + i + 1)) = h then 1 else 0) (show 0 ≤ i - 1 by omega)
          rw [show i - 1 + 1 = i by omega, show 120 * t + (i - 1) + 1 = 120 * t + i by omega] at e
          rw [show i + 1 - 1 = i by omega, e]
          omega
      exact ih (i + 1, f2, z2) ⟨by show 1 ≤ i + 1 ∧ (i + 1 ≤ μ 8 t ∨ (i + 1 = 1 ∧ μ 8 t = 0)); omega, hc2⟩ (by show (μ 8 t - (i + 1)).toNat < (μ 8 t - i).toNat; omega)
set_option maxRecDepth 100000 in
set_option maxHeartbeats 1000000 in
theorem c_forget (l : Launch) (g : ot_G) (ln : Nat) (ext : ot_L) (μ : ot_M)  : ot_C l g yX0_forget cX0_forget 1 none 1 0 0 [.inr 37] (LL ln ext) μ (ot_pv (fun L2 μ2 => L2 = LL ln ext ∧ μ2 = ot_uc μ 39 (wr 276 (μ 39) (fun _ => 0)))) := by
  refine ot_enter (by decide) (Nat.le_of_ble_eq_true rfl) ?_
  intro p e s m args below meth c X hr
  refine tt_aload_n X rfl dX0_forget_0 ?_
  refine tt_getr X fX0_15 (k_37 _ _) (by decide) ⟨nofun, nofun⟩ rfl dX0_forget_1 ?_
  refine tt_iconst X dX0_forget_4 ?_
  refine tt_sv X rfl mX0_22 (c_fill l g ln ext _ (rs := []) 39 276 _ (k_39 _ _) (by decide)) rfl rfl (Nat.le_of_ble_eq_true rfl) (by decide) (by decide) (by decide) dX0_forget_5 (fun L5 μ5 hp => ?_)
  obtain ⟨rfl, rfl⟩ := hp
  refine tt_vret X ⟨hr.1, hr.2.1⟩ (by decide) (by decide) dX0_forget_8 ?_
  exact ⟨rfl, rfl⟩

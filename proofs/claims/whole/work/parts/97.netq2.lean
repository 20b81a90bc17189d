theorem all_q {M : Int} (h : 0 ≤ M ∧ M ≤ 20) : ot_shl 1 M - 1 = ((2 ^ M.toNat - 1 : Nat) : Int) ∧ 2 ^ M.toNat - 1 < 1048576 := by
  have := shl_all h
  omega
theorem anN_lfI (x y : Nat) (i : Nat) : (anN x y).testBit i = (x.testBit i && !y.testBit i) := tb_an x y i
set_option maxRecDepth 100000 in
set_option maxHeartbeats 1000000 in
theorem q_parts (l : Launch) (g : ot_G) (ln : Nat) (ext : ot_L) (μ : ot_M) (hN : gNet (μ 60 11) (μ 69) (μ 70)) (J : Nat → Nat) (hJe : J = joN (nA (μ 69)) (nA (μ 70)) (μ 60 11).toNat) (od : Nat) (hode : od = oddN (nA (μ 69)) (nA (μ 70)) (2 ^ (μ 60 11).toNat - 1) (μ 60 11).toNat)  : ot_C l g yX10_parts cX10_parts 3 (some .int) 1 0 0 [.inr 60] (LL ln ext) μ (ot_pi (fun r L2 μ2 => L2 = LL ln ext ∧ μ2 = μ ∧ r = ((knF J od 24).2.2.1 : Int))) := by
  refine ot_enter (by decide) (Nat.le_of_ble_eq_true rfl) ?_
  intro p e s m args below meth c X hr
  have hM := hN.1
  have hw := hN.2.2
  have hal := all_q hM
  have hJ0 := joN_is hw
  rw [← hJe] at hJ0
  have hlt : ∀ u, J u < 16777216 := fun u => by rw [hJe]; exact joN_lt hw (Nat.le_refl _) u
  have hodl : od < 16777216 := by rw [hode]; exact oddN_lt hw _ (Nat.le_refl _)
  refine tt_aload_n X rfl dX10_parts_0 ?_
  refine tt_aload_n X rfl dX10_parts_1 ?_
  refine tt_vi X rfl mX10_278 (q_allLines l g ln ext _) (k_60 _ _) ⟨_, rfl, rfl⟩ rfl rfl (Nat.le_of_ble_eq_true rfl) (by decide) (by decide) (by decide) dX10_parts_2 (fun z2 L2 μ2 hp => ?_)
  obtain ⟨rfl, e2, hz2⟩ := hp
  replace e2 := e2.symm
  subst e2
  rw [hal.1] at hz2
  refine tt_top hz2 ?_
  try simp (disch := decide) only [ot_rd, ot_rs, ot_rf, ot_ucd, ot_ucs] at hz2
  refine tt_vi X rfl mX10_281 (q_pinsOf l g ln ext _ (2 ^ (μ 60 11).toNat - 1) hal.2 hN) (k_60 _ _) ⟨_, rfl, rfl⟩ rfl rfl (Nat.le_of_ble_eq_true rfl) (by decide) (by decide) (by decide) dX10_parts_5 (fun z5 L5 μ5 hp => ?_)
  obtain ⟨rfl, e5, hz5⟩ := hp
  replace e5 := e5.symm
  subst e5
  refine tt_top hz5 ?_
  try simp (disch := decide) only [ot_rd, ot_rs, ot_rf, ot_ucd, ot_ucs] at hz5
  refine tt_istore_n X dX10_parts_8 (by decide) ?_
  refine tt_iconst X dX10_parts_9 ?_
  refine tt_istore_n X dX10_parts_10 (by decide) ?_
  refine tt_loc [(0, _), (1, _), (2, _)] ⟨rfl, rfl, rfl, trivial⟩ ?_
  refine tt_loop (α := Nat × Nat) (fun ((q0, x)) => 24 - q0) (fun ((q0, x)) => q0 ≤ 24 ∧ lfI J od q0 x ∧ x < 16777216) (fun ((q0, x)) => μ) (fun ((q0, x)) => [(0, .inr 60), (1, .inl (x : Int)), (2, .inl ((knF J od q0).2.2.1 : Int))]) (0, pinN (nA (μ 69)) (nA (μ 70)) (2 ^ (μ 60 11).toNat - 1) (μ 60 11).toNat) ⟨Nat.zero_le _, lfI_first od hJ0, pinN_lt hw _ (Nat.le_refl _)⟩ ?_
  intro a hI ih
  obtain ⟨q0, x⟩ := a
  try dsimp only at hI ih ⊢
  replace hI : q0 ≤ 24 ∧ lfI J od q0 x ∧ x < 16777216 := hI
  have hq0 := hI.1
  have hxl := hI.2.2
  refine tt_iload_n X rfl dX10_parts_11 ?_
  refine tt_if_eq X 42 (by first | omega | (simp (disch := decide) only [ot_rd, ot_rs, ot_rf, ot_ucd, ot_ucs]; omega)) dX10_parts_12 (by decide) (fun b12 => ?_) (fun b12 => ?_)
  · refine tt_iload_n X rfl dX10_parts_42 ?_
    refine tt_iret X ⟨hr.1, hr.2.1⟩ (by decide) (by decide) dX10_parts_43 ?_
    have hx0 : x = 0 := by omega
    subst hx0
    refine ⟨rfl, rfl, ?_⟩
    rw [lfI_done hI.2.1 hq0]
  · obtain ⟨u, hue⟩ : ∃ u, u = lsN (fun v => x.testBit v) 24 := ⟨_, rfl⟩
    have hu := low_of (n := 24) hxl (show x ≠ 0 by omega)
    rw [← hue] at hu
    have hnx := lfI_next hI.2.1 hu.2.1 hu.2.2
    have hpl : prt J u < 16777216 := prt_lt hlt hu.1
    refine tt_iload_n X rfl dX10_parts_15 ?_
    refine tt_aload_n X rfl dX10_parts_16 ?_
    refine tt_iconst X dX10_parts_17 ?_
    refine tt_aload_n X rfl dX10_parts_18 ?_
    refine tt_iload_n X rfl dX10_parts_19 ?_
    refine tt_vi X rfl mX10_284 (q_leastIn l g ln ext _ x u hxl hu.2.1 hu.2.2) (k_60 _ _) ⟨_, rfl, rfl⟩ rfl rfl (Nat.le_of_ble_eq_true rfl) (by decide) (by decide) (by decide) dX10_parts_20 (fun z20 L20 μ20 hp => ?_)
    obtain ⟨rfl, e20, hz20⟩ := hp
    replace e20 := e20.symm
    subst e20
    refine tt_top hz20 ?_
    try simp (disch := decide) only [ot_rd, ot_rs, ot_rf, ot_ucd, ot_ucs] at hz20
    refine tt_ishl X dX10_parts_23 ?_
    refine tt_top (nt_shl hu.1) ?_
    refine tt_aload_n X rfl dX10_parts_24 ?_
    refine tt_vi X rfl mX10_278 (q_allLines l g ln ext _) (k_60 _ _) ⟨_, rfl, rfl⟩ rfl rfl (Nat.le_of_ble_eq_true rfl) (by decide) (by decide) (by decide) dX10_parts_25 (fun z25 L25 μ25 hp => ?_)
    obtain ⟨rfl, e25, hz25⟩ := hp
    replace e25 := e25.symm
    subst e25
    rw [hal.1] at hz25
    refine tt_top hz25 ?_
    try simp (disch := decide) only [ot_rd, ot_rs, ot_rf, ot_ucd, ot_ucs] at hz25
    refine tt_vi X rfl mX10_287 (q_reachedFrom l g ln ext _ (2 ^ u) (nt_p hu.1) (2 ^ (μ 60 11).toNat - 1) hal.2 hN) (k_60 _ _) ⟨_, rfl, rfl⟩ rfl rfl (Nat.le_of_ble_eq_true rfl) (by decide) (by decide) (by decide) dX10_parts_28 (fun z28 L28 μ28 hp => ?_)
    obtain ⟨rfl, e28, hz28⟩ := hp
    replace e28 := e28.symm
    subst e28
    rw [rc_eq hw hJ0 hu.1] at hz28
    refine tt_top hz28 ?_
    try simp (disch := decide) only [ot_rd, ot_rs, ot_rf, ot_ucd, ot_ucs] at hz28
    refine tt_iconst X dX10_parts_31 ?_
    refine tt_ixor X dX10_parts_32 ?_
    refine tt_iand X dX10_parts_33 ?_
    refine tt_top (bo_an (by omega) (by omega)) ?_
    refine tt_istore_n X dX10_parts_34 (by decide) ?_
    refine tt_iload_n X rfl dX10_parts_35 ?_
    refine tt_iconst X dX10_parts_36 ?_
    refine tt_iadd X dX10_parts_37 ?_
    refine tt_istore_n X dX10_parts_38 (by decide) ?_
    refine tt_goto X 11 dX10_parts_39 (by decide) ?_
    refine tt_loc [(0, _), (1, _), (2, _)] ⟨rfl, rfl, rfl, trivial⟩ ?_
    have h2 := ih (u + 1, anN x (prt J u)) ⟨by show u + 1 ≤ 24; omega, hnx.2.2 _ (tb_an x _), an_lt (n := 24) hxl⟩ (by show 24 - (u + 1) < 24 - q0; omega)
    dsimp only at h2
    rw [hnx.2.1] at h2
    exact h2
set_option maxRecDepth 100000 in
set_option maxHeartbeats 1000000 in
theorem q_threadsNeeded (l : Launch) (g : ot_G) (ln : Nat) (ext : ot_L) (μ : ot_M) (hN : gNet (μ 60 11) (μ 69) (μ 70)) (J : Nat → Nat) (hJe : J = joN (nA (μ 69)) (nA (μ 70)) (μ 60 11).toNat) (od : Nat) (hode : od = oddN (nA (μ 69)) (nA (μ 70)) (2 ^ (μ 60 11).toNat - 1) (μ 60 11).toNat)  : ot_C l g yX10_threadsNeeded cX10_threadsNeeded 6 (some .int) 1 0 0 [.inr 60] (LL ln ext) μ (ot_pi (fun r L2 μ2 => L2 = LL ln ext ∧ μ2 = μ ∧ r = ((knF J od 24).2.1 : Int))) := by
  refine ot_enter (by decide) (Nat.le_of_ble_eq_true rfl) ?_
  intro p e s m args below meth c X hr
  have hM := hN.1
  have hw := hN.2.2
  have hal := all_q hM
  have hJ0 := joN_is hw
  rw [← hJe] at hJ0
  have hlt : ∀ u, J u < 16777216 := fun u => by rw [hJe]; exact joN_lt hw (Nat.le_refl _) u
  have hodl : od < 16777216 := by rw [hode]; exact oddN_lt hw _ (Nat.le_refl _)
  have hkb := knF_bound (od := od) hw hJ0
  refine tt_aload_n X rfl dX10_threadsNeeded_0 ?_
  refine tt_aload_n X rfl dX10_threadsNeeded_1 ?_
  refine tt_vi X rfl mX10_278 (q_allLines l g ln ext _) (k_60 _ _) ⟨_, rfl, rfl⟩ rfl rfl (Nat.le_of_ble_eq_true rfl) (by decide) (by decide) (by decide) dX10_threadsNeeded_2 (fun z2 L2 μ2 hp => ?_)
  obtain ⟨rfl, e2, hz2⟩ := hp
  replace e2 := e2.symm
  subst e2
  rw [hal.1] at hz2
  refine tt_top hz2 ?_
  try simp (disch := decide) only [ot_rd, ot_rs, ot_rf, ot_ucd, ot_ucs] at hz2
  refine tt_vi X rfl mX10_281 (q_pinsOf l g ln ext _ (2 ^ (μ 60 11).toNat - 1) hal.2 hN) (k_60 _ _) ⟨_, rfl, rfl⟩ rfl rfl (Nat.le_of_ble_eq_true rfl) (by decide) (by decide) (by decide) dX10_threadsNeeded_5 (fun z5 L5 μ5 hp => ?_)
  obtain ⟨rfl, e5, hz5⟩ := hp
  replace e5 := e5.symm
  subst e5
  refine tt_top hz5 ?_
  try simp (disch := decide) only [ot_rd, ot_rs, ot_rf, ot_ucd, ot_ucs] at hz5
  refine tt_istore_n X dX10_threadsNeeded_8 (by decide) ?_
  refine tt_aload_n X rfl dX10_threadsNeeded_9 ?_
  refine tt_aload_n X rfl dX10_threadsNeeded_10 ?_
  refine tt_vi X rfl mX10_278 (q_allLines l g ln ext _) (k_60 _ _) ⟨_, rfl, rfl⟩ rfl rfl (Nat.le_of_ble_eq_true rfl) (by decide) (by decide) (by decide) dX10_threadsNeeded_11 (fun z11 L11 μ11 hp => ?_)
  obtain ⟨rfl, e11, hz11⟩ := hp
  replace e11 := e11.symm
  subst e11
  rw [hal.1] at hz11
  refine tt_top hz11 ?_
  try simp (disch := decide) only [ot_rd, ot_rs, ot_rf, ot_ucd, ot_ucs] at hz11
  refine tt_vi X rfl mX10_290 (q_oddOf l g ln ext _ (2 ^ (μ 60 11).toNat - 1) hal.2 hN) (k_60 _ _) ⟨_, rfl, rfl⟩ rfl rfl (Nat.le_of_ble_eq_true rfl) (by decide) (by decide) (by decide) dX10_threadsNeeded_14 (fun z14 L14 μ14 hp => ?_)
  obtain ⟨rfl, e14, hz14⟩ := hp
  replace e14 := e14.symm
  subst e14
  rw [← hode] at hz14
  refine tt_top hz14 ?_
  try simp (disch := decide) only [ot_rd, ot_rs, ot_rf, ot_ucd, ot_ucs] at hz14
  refine tt_istore_n X dX10_threadsNeeded_17 (by decide) ?_
  refine tt_iconst X dX10_threadsNeeded_18 ?_
  refine tt_istore_n X dX10_threadsNeeded_19 (by decide) ?_
  refine tt_loc [(0, _), (1, _), (2, _), (3, _)] ⟨rfl, rfl, rfl, rfl, trivial⟩ ?_
  refine tt_loop (α := Nat × Nat) (fun ((q0, x)) => 24 - q0) (fun ((q0, x)) => q0 ≤ 24 ∧ lfI J od q0 x ∧ x < 16777216) (fun ((q0, x)) => μ) (fun ((q0, x)) => [(0, .inr 60), (1, .inl (x : Int)), (2, .inl (od : Int)), (3, .inl ((knF J od q0).2.1 : Int))]) (0, pinN (nA (μ 69)) (nA (μ 70)) (2 ^ (μ 60 11).toNat - 1) (μ 60 11).toNat) ⟨Nat.zero_le _, lfI_first od hJ0, pinN_lt hw _ (Nat.le_refl _)⟩ ?_
  intro a hI ih
  obtain ⟨q0, x⟩ := a
  try dsimp only at hI ih ⊢
  replace hI : q0 ≤ 24 ∧ lfI J od q0 x ∧ x < 16777216 := hI
  have hq0 := hI.1
  have hxl := hI.2.2
  refine tt_iload_n X rfl dX10_threadsNeeded_20 ?_
  refine tt_if_eq X 78 (by first | omega | (simp (disch := decide) only [ot_rd, ot_rs, ot_rf, ot_ucd, ot_ucs]; omega)) dX10_threadsNeeded_21 (by decide) (fun b21 => ?_) (fun b21 => ?_)
  · refine tt_iload_n X rfl dX10_threadsNeeded_78 ?_
    refine tt_iret X ⟨hr.1, hr.2.1⟩ (by decide) (by decide) dX10_threadsNeeded_79 ?_
    have hx0 : x = 0 := by omega
    subst hx0
    refine ⟨rfl, rfl, ?_⟩
    rw [lfI_done hI.2.1 hq0]
  · obtain ⟨u, hue⟩ : ∃ u, u = lsN (fun v => x.testBit v) 24 := ⟨_, rfl⟩
    have hu := low_of (n := 24) hxl (show x ≠ 0 by omega)
    rw [← hue] at hu
    have hnx := lfI_next hI.2.1 hu.2.1 hu.2.2
    have hpl : prt J u < 16777216 := prt_lt hlt hu.1
    refine tt_aload_n X rfl dX10_threadsNeeded_24 ?_
    refine tt_iconst X dX10_threadsNeeded_25 ?_
    refine tt_aload_n X rfl dX10_threadsNeeded_26 ?_
    refine tt_iload_n X rfl dX10_threadsNeeded_27 ?_
    refine tt_vi X rfl mX10_284 (q_leastIn l g ln ext _ x u hxl hu.2.1 hu.2.2) (k_60 _ _) ⟨_, rfl, rfl⟩ rfl rfl (Nat.le_of_ble_eq_true rfl) (by decide) (by decide) (by decide) dX10_threadsNeeded_28 (fun z28 L28 μ28 hp => ?_)
    obtain ⟨rfl, e28, hz28⟩ := hp
    replace e28 := e28.symm
    subst e28
    refine tt_top hz28 ?_
    try simp (disch := decide) only [ot_rd, ot_rs, ot_rf, ot_ucd, ot_ucs] at hz28
    refine tt_ishl X dX10_threadsNeeded_31 ?_
    refine tt_top (nt_shl hu.1) ?_
    refine tt_aload_n X rfl dX10_threadsNeeded_32 ?_
    refine tt_vi X rfl mX10_278 (q_allLines l g ln ext _) (k_60 _ _) ⟨_, rfl, rfl⟩ rfl rfl (Nat.le_of_ble_eq_true rfl) (by decide) (by decide) (by decide) dX10_threadsNeeded_33 (fun z33 L33 μ33 hp => ?_)
    obtain ⟨rfl, e33, hz33⟩ := hp
    replace e33 := e33.symm
    subst e33
    rw [hal.1] at hz33
    refine tt_top hz33 ?_
    try simp (disch := decide) only [ot_rd, ot_rs, ot_rf, ot_ucd, ot_ucs] at hz33
    refine tt_vi X rfl mX10_287 (q_reachedFrom l g ln ext _ (2 ^ u) (nt_p hu.1) (2 ^ (μ 60 11).toNat - 1) hal.2 hN) (k_60 _ _) ⟨_, rfl, rfl⟩ rfl rfl (Nat.le_of_ble_eq_true rfl) (by decide) (by decide) (by decide) dX10_threadsNeeded_36 (fun z36 L36 μ36 hp => ?_)
    obtain ⟨rfl, e36, hz36⟩ := hp
    replace e36 := e36.symm
    subst e36
    rw [rc_eq hw hJ0 hu.1] at hz36
    refine tt_top hz36 ?_
    try simp (disch := decide) only [ot_rd, ot_rs, ot_rf, ot_ucd, ot_ucs] at hz36
    refine tt_istore X dX10_threadsNeeded_39 (by decide) ?_
    refine tt_aload_n X rfl dX10_threadsNeeded_41 ?_
    refine tt_iload X rfl dX10_threadsNeeded_42 ?_
    refine tt_iload_n X rfl dX10_threadsNeeded_44 ?_
    refine tt_iand X dX10_threadsNeeded_45 ?_
    refine tt_top (bo_and _ _ (by omega)) ?_
    have hpo : prt J u &&& od ≤ prt J u := Nat.and_le_left
    have hpc := cnt_le (prt J u &&& od) 24
    refine tt_vi X rfl mX10_293 (q_ones l g ln ext _ ((prt J u &&& od : Nat) : Int) (by omega)) (k_60 _ _) ⟨_, rfl, rfl⟩ rfl rfl (Nat.le_of_ble_eq_true rfl) (by decide) (by decide) (by decide) dX10_threadsNeeded_46 (fun z46 L46 μ46 hp => ?_)
    obtain ⟨rfl, e46, hz46⟩ := hp
    replace e46 := e46.symm
    subst e46
    rw [pop_cnt (by omega)] at hz46
    refine tt_top hz46 ?_
    try simp (disch := decide) only [ot_rd, ot_rs, ot_rf, ot_ucd, ot_ucs] at hz46
    refine tt_iconst X dX10_threadsNeeded_49 ?_
    refine tt_idiv X (by omega) dX10_threadsNeeded_50 ?_
    refine tt_top (y := ((cnt (prt J u &&& od) 24 / 2 : Nat) : Int)) (by rw [bo_div (by omega) (by omega)]; omega) ?_
    refine tt_istore X dX10_threadsNeeded_51 (by decide) ?_
    refine tt_iload_n X rfl dX10_threadsNeeded_53 ?_
    refine tt_iload X rfl dX10_threadsNeeded_54 ?_
    refine tt_iconst X dX10_threadsNeeded_56 ?_
    refine tt_icmp_le X 65 (by first | omega | (simp (disch := decide) only [ot_rd, ot_rs, ot_rf, ot_ucd, ot_ucs]; omega)) dX10_threadsNeeded_57 (by decide) (fun b57 => ?_) (fun b57 => ?_)
    · refine tt_iconst X dX10_threadsNeeded_65 ?_
      refine tt_iadd X dX10_threadsNeeded_66 ?_
      refine tt_istore_n X dX10_threadsNeeded_67 (by decide) ?_
      refine tt_iload_n X rfl dX10_threadsNeeded_68 ?_
      refine tt_iload X rfl dX10_threadsNeeded_69 ?_
      refine tt_iconst X dX10_threadsNeeded_71 ?_
      refine tt_ixor X dX10_threadsNeeded_72 ?_
      refine tt_iand X dX10_threadsNeeded_73 ?_
      refine tt_top (bo_an (by omega) (by omega)) ?_
      refine tt_istore_n X dX10_threadsNeeded_74 (by decide) ?_
      refine tt_goto X 20 dX10_threadsNeeded_75 (by decide) ?_
      refine tt_loc [(0, _), (1, _), (2, _), (3, _)] ⟨rfl, rfl, rfl, rfl, trivial⟩ ?_
      have h2 := ih (u + 1, anN x (prt J u)) ⟨by show u + 1 ≤ 24; omega, hnx.2.2 _ (tb_an x _), an_lt (n := 24) hxl⟩ (by show 24 - (u + 1) < 24 - q0; omega)
      dsimp only at h2
      rw [hnx.2.1] at h2
      dsimp only at h2
      first
        | (rw [show max (cnt (prt J u &&& od) 24 / 2) 1 = cnt (prt J u &&& od) 24 / 2 by omega] at h2
           exact h2)
        | (rw [show max (cnt (prt J u &&& od) 24 / 2) 1 = 1 by omega] at h2
           exact h2)
    · refine tt_iload X rfl dX10_threadsNeeded_60 ?_
      refine tt_goto X 66 dX10_threadsNeeded_62 (by decide) ?_
      refine tt_iadd X dX10_threadsNeeded_66 ?_
      refine tt_istore_n X dX10_threadsNeeded_67 (by decide) ?_
      refine tt_iload_n X rfl dX10_threadsNeeded_68 ?_
      refine tt_iload X rfl dX10_threadsNeeded_69 ?_
      refine tt_iconst X dX10_threadsNeeded_71 ?_
      refine tt_ixor X dX10_threadsNeeded_72 ?_
      refine tt_iand X dX10_threadsNeeded_73 ?_
      refine tt_top (bo_an (by omega) (by omega)) ?_
      refine tt_istore_n X dX10_threadsNeeded_74 (by decide) ?_
      refine tt_goto X 20 dX10_threadsNeeded_75 (by decide) ?_
      refine tt_loc [(0, _), (1, _), (2, _), (3, _)] ⟨rfl, rfl, rfl, rfl, trivial⟩ ?_
      have h2 := ih (u + 1, anN x (prt J u)) ⟨by show u + 1 ≤ 24; omega, hnx.2.2 _ (tb_an x _), an_lt (n := 24) hxl⟩ (by show 24 - (u + 1) < 24 - q0; omega)
      dsimp only at h2
      rw [hnx.2.1] at h2
      dsimp only at h2
      first
        | (rw [show max (cnt (prt J u &&& od) 24 / 2) 1 = cnt (prt J u &&& od) 24 / 2 by omega] at h2
           exact h2)
        | (rw [show max (cnt (prt J u &&& od) 24 / 2) 1 = 1 by omega] at h2
           exact h2)

set_option maxRecDepth 100000 in
set_option maxHeartbeats 1000000 in
theorem c_measured (l : Launch) (g : ot_G) (ln : Nat) (ext : ot_L) (μ : ot_M) (a b : Int) (hG : gPin (μ 1 11) (μ 1 12) (μ 2) (μ 3)) (hCh : gChd (μ 1 11) (μ 1 12) (μ 2) (μ 3) (μ 38) (μ 39)) (ha : 0 ≤ a ∧ a < μ 1 12) (hb : 0 ≤ b ∧ b < μ 1 12) (hab : a ≠ b)  : ot_C l g yX0_measured cX0_measured 4 (some .int) 3 0 0 [.inr 37, .inl a, .inl b] (LL ln ext) μ (ot_pi (fun r L2 μ2 => L2 = LL ln ext ∧ r = chN a b ∧ ∃ f z, μ2 = ot_uc (ot_uc μ 38 f) 39 z ∧ gChd (μ 1 11) (μ 1 12) (μ 2) (μ 3) f z ∧ gRow (μ 1 11) (μ 2 (min a b)) (μ 3 (min a b)) (μ 2 (max a b)) (μ 3 (max a b)) f (chN a b * 16) (z (chN a b)))) := by
  refine ot_enter (by decide) (Nat.le_of_ble_eq_true rfl) ?_
  intro p e s m args below meth c X hr
  have hNn := hG.2.1
  have hch := chN_in (a := a) (b := b) (by omega) (by omega) (by omega)
  have hsz := gChd_sz hCh ha hb hab
  have hsr : 0 ≤ μ 39 (chN a b) ∧ μ 39 (chN a b) ≤ 15 := by
    rcases hsz with q | q
    · omega
    · have := q.1; omega
  have he : chN (min a b) (max a b) = chN a b := by unfold chN; rw [show max (min a b) (max a b) = max a b by omega, show min (min a b) (max a b) = min a b by omega]
  refine tt_iload_n X rfl dX0_measured_0 ?_
  refine tt_iload_n X rfl dX0_measured_1 ?_
  refine tt_si X rfl mX0_37 (c_numberOf l g ln ext _ _ _ (by first | omega | (simp (disch := decide) only [ot_rd, ot_rs, ot_rf, ot_ucd, ot_ucs]; omega)) (by first | omega | (simp (disch := decide) only [ot_rd, ot_rs, ot_rf, ot_ucd, ot_ucs]; omega))) rfl rfl (Nat.le_of_ble_eq_true rfl) (by decide) (by decide) (by decide) dX0_measured_2 (fun z2 L2 μ2 hp => ?_)
  obtain ⟨rfl, e2, hz2⟩ := hp
  replace e2 := e2.symm
  subst e2
  try simp (disch := decide) only [ot_rd, ot_rs, ot_rf, ot_ucd, ot_ucs] at hz2
  refine tt_top hz2 ?_
  refine tt_istore_n X dX0_measured_5 (by decide) ?_
  refine tt_aload_n X rfl dX0_measured_6 ?_
  refine tt_getr X fX0_15 (k_37 _ _) (by decide) ⟨nofun, nofun⟩ rfl dX0_measured_7 ?_
  refine tt_iload_n X rfl dX0_measured_10 ?_
  refine tt_iaload X (k_39 _ _) (by first | omega | (simp (disch := decide) only [ot_rd, ot_rs, ot_rf, ot_ucd, ot_ucs]; omega)) dX0_measured_11 ?_
  try simp (disch := decide) only [ot_rd, ot_rs, ot_rf, ot_ucd, ot_ucs]
  refine tt_if_ne X 30 (by first | omega | (simp (disch := decide) only [ot_rd, ot_rs, ot_rf, ot_ucd, ot_ucs]; omega)) dX0_measured_12 (by decide) (fun b12 => ?_) (fun b12 => ?_)
  · refine tt_iload_n X rfl dX0_measured_30 ?_
    refine tt_iret X ⟨hr.1, hr.2.1⟩ (by decide) (by decide) dX0_measured_31 ?_
    first | exact ⟨rfl, rfl, μ 38, μ 39, ot_memCS, hCh, hsz.resolve_left (by omega)⟩ | exact ⟨rfl, rfl, f, up1 (μ 39) (chN a b) m0, (by rw [ot_up_uc]; simp (disch := decide) only [ot_ucd]), (by have := gChd_set hCh (by omega) (a := min a b) (b := max a b) (by omega) (by omega) (by omega) (by rw [he]; exact hf) (by rw [he]; exact hrow); rw [he] at this; exact this), (by rw [up1_s]; exact hrow)⟩
  · refine tt_aload_n X rfl dX0_measured_15 ?_
    refine tt_iload_n X rfl dX0_measured_16 ?_
    refine tt_iload_n X rfl dX0_measured_17 ?_
    refine tt_iload_n X rfl dX0_measured_18 ?_
    refine tt_min X rfl mX0_34 (by omega) (Nat.le_of_ble_eq_true rfl) (by decide) (by decide) dX0_measured_19 ?_
    refine tt_iload_n X rfl dX0_measured_22 ?_
    refine tt_iload_n X rfl dX0_measured_23 ?_
    refine tt_max X rfl mX0_28 (by omega) (Nat.le_of_ble_eq_true rfl) (by decide) (by decide) dX0_measured_24 ?_
    refine tt_vv X rfl mX0_40 (c_measure l g ln ext _ _ (min a b) (max a b) hG (by omega) (by omega) (by omega) he.symm) (k_37 _ _) ⟨_, rfl, rfl⟩ rfl rfl (Nat.le_of_ble_eq_true rfl) (by decide) (by decide) (by decide) dX0_measured_27 (fun L27 μ27 hp => ?_)
    obtain ⟨rfl, f, m0, rfl, hf, hrow⟩ := hp
    refine tt_iload_n X rfl dX0_measured_30 ?_
    refine tt_iret X ⟨hr.1, hr.2.1⟩ (by decide) (by decide) dX0_measured_31 ?_
    first | exact ⟨rfl, rfl, μ 38, μ 39, ot_memCS, hCh, hsz.resolve_left (by omega)⟩ | exact ⟨rfl, rfl, f, up1 (μ 39) (chN a b) m0, (by rw [ot_up_uc]; simp (disch := decide) only [ot_ucd]), (by have := gChd_set hCh (by omega) (a := min a b) (b := max a b) (by omega) (by omega) (by omega) (by rw [he]; exact hf) (by rw [he]; exact hrow); rw [he] at this; exact this), (by rw [up1_s]; exact hrow)⟩
set_option maxRecDepth 100000 in
set_option maxHeartbeats 1000000 in
theorem c_samplesIn (l : Launch) (g : ot_G) (ln : Nat) (ext : ot_L) (μ : ot_M) (a b k : Int) (hk : -2147483648 ≤ k ∧ k ≤ 2147483647)(hG : gPin (μ 1 11) (μ 1 12) (μ 2) (μ 3)) (hCh : gChd (μ 1 11) (μ 1 12) (μ 2) (μ 3) (μ 38) (μ 39)) (ha : 0 ≤ a ∧ a < μ 1 12) (hb : 0 ≤ b ∧ b < μ 1 12) (hab : a ≠ b)  : ot_C l g yX0_samplesIn cX0_samplesIn 6 (some .int) 4 0 0 [.inr 37, .inl a, .inl b, .inl k] (LL ln ext) μ (ot_pi (fun r L2 μ2 => L2 = LL ln ext ∧ r = smp (μ 1 11) (μ 2) (μ 3) a b k ∧ ∃ f z, μ2 = ot_uc (ot_uc μ 38 f) 39 z ∧ gChd (μ 1 11) (μ 1 12) (μ 2) (μ 3) f z)) := by
  refine ot_enter (by decide) (Nat.le_of_ble_eq_true rfl) ?_
  intro p e s m args below meth c X hr
  have hNn := hG.2.1
  have hch := chN_in (a := a) (b := b) (by omega) (by omega) (by omega)
  refine tt_aload_n X rfl dX0_samplesIn_0 ?_
  refine tt_iload_n X rfl dX0_samplesIn_1 ?_
  refine tt_iload_n X rfl dX0_samplesIn_2 ?_
  refine tt_vi X rfl mX0_66 (c_measured l g ln ext _ _ _ hG hCh ha hb hab) (k_37 _ _) ⟨_, rfl, rfl⟩ rfl rfl (Nat.le_of_ble_eq_true rfl) (by decide) (by decide) (by decide) dX0_samplesIn_3 (fun z3 L3 μ3 hp => ?_)
  obtain ⟨rfl, hz3, f, z, rfl, hcf, hrow⟩ := hp
  subst hz3
  have hr1 := hrow.1
  try simp (disch := decide) only [ot_rd, ot_rs, ot_rf, ot_ucd, ot_ucs] at hz3
  refine tt_istore X dX0_samplesIn_6 (by decide) ?_
  refine tt_iconst X dX0_samplesIn_8 ?_
  refine tt_istore X dX0_samplesIn_9 (by decide) ?_
  refine tt_loc [(0, _), (3, _), (4, _), (5, _)] ⟨rfl, rfl, rfl, rfl, trivial⟩ ?_
  refine tt_loop (α := Int) (fun i => (z (chN a b) - i).toNat) (fun i => (0 ≤ i ∧ i ≤ z (chN a b)) ∧ ∀ c, 0 ≤ c → c < i → f (chN a b * 16 + c) / 16 ≠ k) (fun i => ot_uc (ot_uc μ 38 f) 39 z) (fun i => [(0, .inr 37), (3, .inl k), (4, .inl (chN a b)), (5, .inl i)]) 0 ⟨by omega, fun c c1 c2 => by omega⟩ ?_
  intro i hI ih
  try dsimp only at hI ih ⊢
  have hi := hI.1
  refine tt_iload X rfl dX0_samplesIn_11 ?_
  refine tt_aload_n X rfl dX0_samplesIn_13 ?_
  refine tt_getr X fX0_15 (k_37 _ _) (by decide) ⟨nofun, nofun⟩ rfl dX0_samplesIn_14 ?_
  refine tt_iload X rfl dX0_samplesIn_17 ?_
  refine tt_iaload X (k_39 _ _) (by first | omega | (simp (disch := decide) only [ot_rd, ot_rs, ot_rf, ot_ucd, ot_ucs]; omega)) dX0_samplesIn_19 ?_
  try simp (disch := decide) only [ot_rd, ot_rs, ot_rf, ot_ucd, ot_ucs]
  refine tt_icmp_ge X 50 (by first | omega | (simp (disch := decide) only [ot_rd, ot_rs, ot_rf, ot_ucd, ot_ucs]; omega)) dX0_samplesIn_20 (by decide) (fun b20 => ?_) (fun b20 => ?_)
  · refine tt_iconst X dX0_samplesIn_50 ?_
    refine tt_iret X ⟨hr.1, hr.2.1⟩ (by decide) (by decide) dX0_samplesIn_51 ?_
    refine ⟨rfl, ?_, f, z, rfl, hcf⟩
    rw [gRow_smp hrow k]
    exact (clS_no (fun c c1 c2 => hI.2 c c1 (by omega))).symm
  · have hrc := hrow.2.1 i (by omega) (by omega)
    refine tt_aload_n X rfl dX0_samplesIn_23 ?_
    refine tt_iload X rfl dX0_samplesIn_24 ?_
    refine tt_iload X rfl dX0_samplesIn_26 ?_
    refine tt_vi X rfl mX0_69 (c_squareOf l g ln ext _ _ _ (by omega) (by omega) (by simp (disch := decide) only [ot_ucd, ot_ucs, ot_rd, ot_rs]; exact hrc.1)) (k_37 _ _) ⟨_, rfl, rfl⟩ rfl rfl (Nat.le_of_ble_eq_true rfl) (by decide) (by decide) (by decide) dX0_samplesIn_28 (fun z28 L28 μ28 hp => ?_)
    obtain ⟨rfl, e28, hz28⟩ := hp
    replace e28 := e28.symm
    subst e28
    simp (disch := decide) only [ot_ucd, ot_ucs, ot_rd, ot_rs] at hz28
    try simp (disch := decide) only [ot_rd, ot_rs, ot_rf, ot_ucd, ot_ucs] at hz28
    refine tt_iload_n X rfl dX0_samplesIn_31 ?_
    refine tt_icmp_ne X 44 (by first | omega | (simp (disch := decide) only [ot_rd, ot_rs, ot_rf, ot_ucd, ot_ucs]; omega)) dX0_samplesIn_32 (by decide) (fun b32 => ?_) (fun b32 => ?_)
    · refine tt_iinc X dX0_samplesIn_44 rfl (by decide) ?_
      refine tt_goto X 11 dX0_samplesIn_47 (by decide) ?_
      refine tt_loc [(0, _), (3, _), (4, _), (5, _)] ⟨rfl, rfl, rfl, rfl, trivial⟩ ?_
      refine ih (i + 1) ⟨by omega, fun c c1 c2 => ?_⟩ (by omega)
      rcases (show c < i ∨ c = i by omega) with q | q
      · exact hI.2 c c1 q
      · rw [q, ← hz28]; omega
    · refine tt_aload_n X rfl dX0_samplesIn_35 ?_
      refine tt_iload X rfl dX0_samplesIn_36 ?_
      refine tt_iload X rfl dX0_samplesIn_38 ?_
      refine tt_vi X rfl mX0_72 (c_middlesOf l g ln ext _ _ _ (by omega) (by omega) (by simp (disch := decide) only [ot_ucd, ot_ucs, ot_rd, ot_rs]; exact hrc.1)) (k_37 _ _) ⟨_, rfl, rfl⟩ rfl rfl (Nat.le_of_ble_eq_true rfl) (by decide) (by decide) (by decide) dX0_samplesIn_40 (fun z40 L40 μ40 hp => ?_)
      obtain ⟨rfl, e40, hz40⟩ := hp
      replace e40 := e40.symm
      subst e40
      simp (disch := decide) only [ot_ucd, ot_ucs, ot_rd, ot_rs] at hz40
      try simp (disch := decide) only [ot_rd, ot_rs, ot_rf, ot_ucd, ot_ucs] at hz40
      refine tt_iret X ⟨hr.1, hr.2.1⟩ (by decide) (by decide) dX0_samplesIn_43 ?_
      refine ⟨rfl, ?_, f, z, rfl, hcf⟩
      rw [hz40, gRow_smp hrow k]
      exact (clS_at (fun c d c1 c2 d1 d2 q => hrow.2.2.1 c d c1 (by omega) d1 (by omega) q) hi.1 (by omega) (by omega)).symm

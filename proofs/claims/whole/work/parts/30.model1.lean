set_option maxRecDepth 100000 in
set_option maxHeartbeats 4000000 in
theorem q_isIn (l : Launch) (g : ot_G) (ln : Nat) (ext : ot_L) (μ : ot_M) (v lo hi : Int) (hv : -2147483648 ≤ v ∧ v ≤ 2147483647) (hlo : -2147483648 ≤ lo ∧ lo ≤ 2147483647) (hhi : -2147483648 ≤ hi ∧ hi ≤ 2147483647)  : ot_C l g yX10_isIn cX10_isIn 4 (some .boolean) 0 0 0 [.inr 60, .inl v, .inl lo, .inl hi] (LL ln ext) μ (ot_pi (fun r L2 μ2 => L2 = LL ln ext ∧ μ2 = μ ∧ r = (if lo ≤ v ∧ v ≤ hi then 1 else 0))) := by
  refine ot_enter (by decide) (Nat.le_of_ble_eq_true rfl) ?_
  intro p e s m args below meth c X hr
  refine tt_iload_n X rfl dX10_isIn_0 ?_
  refine tt_iload_n X rfl dX10_isIn_1 ?_
  refine tt_icmp_lt X 14 (by omega) dX10_isIn_2 (by decide) (fun b2 => ?_) (fun b2 => ?_)
  · refine tt_iconst X dX10_isIn_14 ?_
    refine tt_zret X ⟨hr.1, hr.2.1⟩ (by omega) (by decide) (by decide) dX10_isIn_15 ?_
    refine ⟨rfl, rfl, ?_⟩
    first | omega | (split <;> omega)
  · refine tt_iload_n X rfl dX10_isIn_5 ?_
    refine tt_iload_n X rfl dX10_isIn_6 ?_
    refine tt_icmp_gt X 14 (by omega) dX10_isIn_7 (by decide) (fun b7 => ?_) (fun b7 => ?_)
    · refine tt_iconst X dX10_isIn_14 ?_
      refine tt_zret X ⟨hr.1, hr.2.1⟩ (by omega) (by decide) (by decide) dX10_isIn_15 ?_
      refine ⟨rfl, rfl, ?_⟩
      first | omega | (split <;> omega)
    · refine tt_iconst X dX10_isIn_10 ?_
      refine tt_goto X 15 dX10_isIn_11 (by decide) ?_
      refine tt_zret X ⟨hr.1, hr.2.1⟩ (by omega) (by decide) (by decide) dX10_isIn_15 ?_
      refine ⟨rfl, rfl, ?_⟩
      first | omega | (split <;> omega)
set_option maxRecDepth 100000 in
set_option maxHeartbeats 4000000 in
theorem q_without (l : Launch) (g : ot_G) (ln : Nat) (ext : ot_L) (μ : ot_M) (v : Int)  (hv : -2147483648 < v ∧ v ≤ 2147483647) : ot_C l g yX10_without cX10_without 2 (some .int) 0 0 0 [.inr 60, .inl v] (LL ln ext) μ (ot_pi (fun r L2 μ2 => L2 = LL ln ext ∧ μ2 = μ ∧ r = (v.natAbs : Int))) := by
  refine ot_enter (by decide) (Nat.le_of_ble_eq_true rfl) ?_
  intro p e s m args below meth c X hr
  refine tt_iload_n X rfl dX10_without_0 ?_
  refine tt_if_ge X 9 (by omega) dX10_without_1 (by decide) (fun b1 => ?_) (fun b1 => ?_)
  · refine tt_iload_n X rfl dX10_without_9 ?_
    refine tt_iret X ⟨hr.1, hr.2.1⟩ (by decide) (by decide) dX10_without_10 ?_
    refine ⟨rfl, rfl, ?_⟩
    first | omega | (split <;> omega)
  · refine tt_iload_n X rfl dX10_without_4 ?_
    refine tt_ineg X dX10_without_5 ?_
    refine tt_goto X 10 dX10_without_6 (by decide) ?_
    refine tt_iret X ⟨hr.1, hr.2.1⟩ (by decide) (by decide) dX10_without_10 ?_
    refine ⟨rfl, rfl, ?_⟩
    first | omega | (split <;> omega)
set_option maxRecDepth 100000 in
set_option maxHeartbeats 4000000 in
theorem q_isSquare (l : Launch) (g : ot_G) (ln : Nat) (ext : ot_L) (μ : ot_M) (x y : Int) (hx : -2147483648 ≤ x ∧ x ≤ 2147483647) (hy : -2147483648 ≤ y ∧ y ≤ 2147483647) (hs : 2 ≤ μ 60 1 ∧ μ 60 1 ≤ 8) : ot_C l g yX10_isSquare cX10_isSquare 3 (some .boolean) 0 0 0 [.inr 60, .inl x, .inl y] (LL ln ext) μ (ot_pi (fun r L2 μ2 => L2 = LL ln ext ∧ μ2 = μ ∧ r = (if 0 ≤ x ∧ x < μ 60 1 ∧ 0 ≤ y ∧ y < μ 60 1 then 1 else 0))) := by
  refine ot_enter (by decide) (Nat.le_of_ble_eq_true rfl) ?_
  intro p e s m args below meth c X hr
  refine tt_iload_n X rfl dX10_isSquare_0 ?_
  refine tt_if_lt X 28 (by omega) dX10_isSquare_1 (by decide) (fun b1 => ?_) (fun b1 => ?_)
  · refine tt_iconst X dX10_isSquare_28 ?_
    refine tt_zret X ⟨hr.1, hr.2.1⟩ (by omega) (by decide) (by decide) dX10_isSquare_29 ?_
    refine ⟨rfl, rfl, ?_⟩
    first | omega | (split <;> omega)
  · refine tt_iload_n X rfl dX10_isSquare_4 ?_
    refine tt_aload_n X rfl dX10_isSquare_5 ?_
    refine tt_geti X fX10_7 (k_60 _ _) (by decide) (Or.inl rfl) dX10_isSquare_6 ?_
    refine tt_icmp_ge X 28 (by omega) dX10_isSquare_9 (by decide) (fun b9 => ?_) (fun b9 => ?_)
    · refine tt_iconst X dX10_isSquare_28 ?_
      refine tt_zret X ⟨hr.1, hr.2.1⟩ (by omega) (by decide) (by decide) dX10_isSquare_29 ?_
      refine ⟨rfl, rfl, ?_⟩
      first | omega | (split <;> omega)
    · refine tt_iload_n X rfl dX10_isSquare_12 ?_
      refine tt_if_lt X 28 (by omega) dX10_isSquare_13 (by decide) (fun b13 => ?_) (fun b13 => ?_)
      · refine tt_iconst X dX10_isSquare_28 ?_
        refine tt_zret X ⟨hr.1, hr.2.1⟩ (by omega) (by decide) (by decide) dX10_isSquare_29 ?_
        refine ⟨rfl, rfl, ?_⟩
        first | omega | (split <;> omega)
      · refine tt_iload_n X rfl dX10_isSquare_16 ?_
        refine tt_aload_n X rfl dX10_isSquare_17 ?_
        refine tt_geti X fX10_7 (k_60 _ _) (by decide) (Or.inl rfl) dX10_isSquare_18 ?_
        refine tt_icmp_ge X 28 (by omega) dX10_isSquare_21 (by decide) (fun b21 => ?_) (fun b21 => ?_)
        · refine tt_iconst X dX10_isSquare_28 ?_
          refine tt_zret X ⟨hr.1, hr.2.1⟩ (by omega) (by decide) (by decide) dX10_isSquare_29 ?_
          refine ⟨rfl, rfl, ?_⟩
          first | omega | (split <;> omega)
        · refine tt_iconst X dX10_isSquare_24 ?_
          refine tt_goto X 29 dX10_isSquare_25 (by decide) ?_
          refine tt_zret X ⟨hr.1, hr.2.1⟩ (by omega) (by decide) (by decide) dX10_isSquare_29 ?_
          refine ⟨rfl, rfl, ?_⟩
          first | omega | (split <;> omega)
set_option maxRecDepth 100000 in
set_option maxHeartbeats 4000000 in
theorem q_isPin (l : Launch) (g : ot_G) (ln : Nat) (ext : ot_L) (μ : ot_M) (a : Int) (ha : -2147483648 ≤ a ∧ a ≤ 2147483647) (hs : 0 ≤ μ 60 2 ∧ μ 60 2 ≤ 24) : ot_C l g yX10_isPin cX10_isPin 2 (some .boolean) 0 0 0 [.inr 60, .inl a] (LL ln ext) μ (ot_pi (fun r L2 μ2 => L2 = LL ln ext ∧ μ2 = μ ∧ r = (if 0 ≤ a ∧ a < μ 60 2 then 1 else 0))) := by
  refine ot_enter (by decide) (Nat.le_of_ble_eq_true rfl) ?_
  intro p e s m args below meth c X hr
  refine tt_iload_n X rfl dX10_isPin_0 ?_
  refine tt_if_lt X 16 (by omega) dX10_isPin_1 (by decide) (fun b1 => ?_) (fun b1 => ?_)
  · refine tt_iconst X dX10_isPin_16 ?_
    refine tt_zret X ⟨hr.1, hr.2.1⟩ (by omega) (by decide) (by decide) dX10_isPin_17 ?_
    refine ⟨rfl, rfl, ?_⟩
    first | omega | (split <;> omega)
  · refine tt_iload_n X rfl dX10_isPin_4 ?_
    refine tt_aload_n X rfl dX10_isPin_5 ?_
    refine tt_geti X fX10_101 (k_60 _ _) (by decide) (Or.inl rfl) dX10_isPin_6 ?_
    refine tt_icmp_ge X 16 (by omega) dX10_isPin_9 (by decide) (fun b9 => ?_) (fun b9 => ?_)
    · refine tt_iconst X dX10_isPin_16 ?_
      refine tt_zret X ⟨hr.1, hr.2.1⟩ (by omega) (by decide) (by decide) dX10_isPin_17 ?_
      refine ⟨rfl, rfl, ?_⟩
      first | omega | (split <;> omega)
    · refine tt_iconst X dX10_isPin_12 ?_
      refine tt_goto X 17 dX10_isPin_13 (by decide) ?_
      refine tt_zret X ⟨hr.1, hr.2.1⟩ (by omega) (by decide) (by decide) dX10_isPin_17 ?_
      refine ⟨rfl, rfl, ?_⟩
      first | omega | (split <;> omega)
set_option maxRecDepth 100000 in
set_option maxHeartbeats 4000000 in
theorem q_isThread (l : Launch) (g : ot_G) (ln : Nat) (ext : ot_L) (μ : ot_M) (a : Int) (ha : -2147483648 ≤ a ∧ a ≤ 2147483647)  : ot_C l g yX10_isThread cX10_isThread 2 (some .boolean) 0 0 0 [.inr 60, .inl a] (LL ln ext) μ (ot_pi (fun r L2 μ2 => L2 = LL ln ext ∧ μ2 = μ ∧ r = (if 0 ≤ a ∧ a < 3 then 1 else 0))) := by
  refine ot_enter (by decide) (Nat.le_of_ble_eq_true rfl) ?_
  intro p e s m args below meth c X hr
  refine tt_iload_n X rfl dX10_isThread_0 ?_
  refine tt_if_lt X 13 (by omega) dX10_isThread_1 (by decide) (fun b1 => ?_) (fun b1 => ?_)
  · refine tt_iconst X dX10_isThread_13 ?_
    refine tt_zret X ⟨hr.1, hr.2.1⟩ (by omega) (by decide) (by decide) dX10_isThread_14 ?_
    refine ⟨rfl, rfl, ?_⟩
    first | omega | (split <;> omega)
  · refine tt_iload_n X rfl dX10_isThread_4 ?_
    refine tt_iconst X dX10_isThread_5 ?_
    refine tt_icmp_ge X 13 (by omega) dX10_isThread_6 (by decide) (fun b6 => ?_) (fun b6 => ?_)
    · refine tt_iconst X dX10_isThread_13 ?_
      refine tt_zret X ⟨hr.1, hr.2.1⟩ (by omega) (by decide) (by decide) dX10_isThread_14 ?_
      refine ⟨rfl, rfl, ?_⟩
      first | omega | (split <;> omega)
    · refine tt_iconst X dX10_isThread_9 ?_
      refine tt_goto X 14 dX10_isThread_10 (by decide) ?_
      refine tt_zret X ⟨hr.1, hr.2.1⟩ (by omega) (by decide) (by decide) dX10_isThread_14 ?_
      refine ⟨rfl, rfl, ?_⟩
      first | omega | (split <;> omega)
set_option maxRecDepth 100000 in
set_option maxHeartbeats 4000000 in
theorem q_isPicture (l : Launch) (g : ot_G) (ln : Nat) (ext : ot_L) (μ : ot_M) (a : Int) (ha : -2147483648 ≤ a ∧ a ≤ 2147483647)  : ot_C l g yX10_isPicture cX10_isPicture 2 (some .boolean) 0 0 0 [.inr 60, .inl a] (LL ln ext) μ (ot_pi (fun r L2 μ2 => L2 = LL ln ext ∧ μ2 = μ ∧ r = (if 0 ≤ a ∧ a < 4 then 1 else 0))) := by
  refine ot_enter (by decide) (Nat.le_of_ble_eq_true rfl) ?_
  intro p e s m args below meth c X hr
  refine tt_iload_n X rfl dX10_isPicture_0 ?_
  refine tt_if_lt X 13 (by omega) dX10_isPicture_1 (by decide) (fun b1 => ?_) (fun b1 => ?_)
  · refine tt_iconst X dX10_isPicture_13 ?_
    refine tt_zret X ⟨hr.1, hr.2.1⟩ (by omega) (by decide) (by decide) dX10_isPicture_14 ?_
    refine ⟨rfl, rfl, ?_⟩
    first | omega | (split <;> omega)
  · refine tt_iload_n X rfl dX10_isPicture_4 ?_
    refine tt_iconst X dX10_isPicture_5 ?_
    refine tt_icmp_ge X 13 (by omega) dX10_isPicture_6 (by decide) (fun b6 => ?_) (fun b6 => ?_)
    · refine tt_iconst X dX10_isPicture_13 ?_
      refine tt_zret X ⟨hr.1, hr.2.1⟩ (by omega) (by decide) (by decide) dX10_isPicture_14 ?_
      refine ⟨rfl, rfl, ?_⟩
      first | omega | (split <;> omega)
    · refine tt_iconst X dX10_isPicture_9 ?_
      refine tt_goto X 14 dX10_isPicture_10 (by decide) ?_
      refine tt_zret X ⟨hr.1, hr.2.1⟩ (by omega) (by decide) (by decide) dX10_isPicture_14 ?_
      refine ⟨rfl, rfl, ?_⟩
      first | omega | (split <;> omega)
set_option maxRecDepth 100000 in
set_option maxHeartbeats 4000000 in
theorem q_raw (l : Launch) (g : ot_G) (ln : Nat) (ext : ot_L) (μ : ot_M) (k : Int)  (hk : 0 ≤ k ∧ k ≤ 400) (ht : 0 ≤ μ 60 17 ∧ μ 60 17 ≤ 400) : ot_C l g yX10_raw cX10_raw 2 (some .int) 0 0 0 [.inr 60, .inl k] (LL ln ext) μ (ot_pi (fun r L2 μ2 => L2 = LL ln ext ∧ μ2 = μ ∧ r = (if k < μ 60 17 then μ 72 k else -1))) := by
  refine ot_enter (by decide) (Nat.le_of_ble_eq_true rfl) ?_
  intro p e s m args below meth c X hr
  refine tt_iload_n X rfl dX10_raw_0 ?_
  refine tt_aload_n X rfl dX10_raw_1 ?_
  refine tt_geti X fX10_128 (k_60 _ _) (by decide) (Or.inl rfl) dX10_raw_2 ?_
  refine tt_icmp_ge X 17 (by omega) dX10_raw_5 (by decide) (fun b5 => ?_) (fun b5 => ?_)
  · refine tt_iconst X dX10_raw_17 ?_
    refine tt_iret X ⟨hr.1, hr.2.1⟩ (by decide) (by decide) dX10_raw_18 ?_
    refine ⟨rfl, rfl, ?_⟩
    first | omega | (split <;> omega)
  · refine tt_aload_n X rfl dX10_raw_8 ?_
    refine tt_getr X fX10_47 (k_60 _ _) (by decide) ⟨nofun, nofun⟩ rfl dX10_raw_9 ?_
    refine tt_iload_n X rfl dX10_raw_12 ?_
    refine tt_iaload X (k_72 _ _) (by omega) dX10_raw_13 ?_
    refine tt_goto X 18 dX10_raw_14 (by decide) ?_
    refine tt_iret X ⟨hr.1, hr.2.1⟩ (by decide) (by decide) dX10_raw_18 ?_
    refine ⟨rfl, rfl, ?_⟩
    first | omega | (split <;> omega)
set_option maxRecDepth 100000 in
set_option maxHeartbeats 4000000 in
theorem q_isLetter (l : Launch) (g : ot_G) (ln : Nat) (ext : ot_L) (μ : ot_M) (v : Int) (hv : -2147483648 ≤ v ∧ v ≤ 2147483647)  : ot_C l g yX10_isLetter cX10_isLetter 2 (some .boolean) 1 0 0 [.inr 60, .inl v] (LL ln ext) μ (ot_pi (fun r L2 μ2 => L2 = LL ln ext ∧ μ2 = μ ∧ r = (if (97 ≤ v ∧ v ≤ 122) ∨ (65 ≤ v ∧ v ≤ 90) then 1 else 0))) := by
  refine ot_enter (by decide) (Nat.le_of_ble_eq_true rfl) ?_
  intro p e s m args below meth c X hr
  refine tt_aload_n X rfl dX10_isLetter_0 ?_
  refine tt_iload_n X rfl dX10_isLetter_1 ?_
  refine tt_bipush X (by decide) dX10_isLetter_2 ?_
  refine tt_bipush X (by decide) dX10_isLetter_4 ?_
  refine tt_vi X rfl mX10_104 (q_isIn l g ln ext _ _ _ _ (by omega) (by omega) (by omega)) (k_60 _ _) ⟨_, rfl, rfl⟩ rfl rfl (Nat.le_of_ble_eq_true rfl) (by decide) (by decide) (by decide) dX10_isLetter_6 (fun z6 L6 μ6 hp => ?_)
  obtain ⟨rfl, e6, hz6⟩ := hp
  replace e6 := e6.symm
  subst e6
  try simp (disch := decide) only [ot_rd, ot_rs, ot_rf, ot_ucd, ot_ucs] at hz6
  refine tt_if_ne X 24 (by first | omega | (simp (disch := decide) only [ot_rd, ot_rs, ot_rf, ot_ucd, ot_ucs]; omega)) dX10_isLetter_9 (by decide) (fun b9 => ?_) (fun b9 => ?_)
  · refine tt_iconst X dX10_isLetter_24 ?_
    refine tt_goto X 29 dX10_isLetter_25 (by decide) ?_
    refine tt_zret X ⟨hr.1, hr.2.1⟩ (by omega) (by decide) (by decide) dX10_isLetter_29 ?_
    refine ⟨rfl, rfl, ?_⟩
    first | omega | (split <;> omega)
  · refine tt_aload_n X rfl dX10_isLetter_12 ?_
    refine tt_iload_n X rfl dX10_isLetter_13 ?_
    refine tt_bipush X (by decide) dX10_isLetter_14 ?_
    refine tt_bipush X (by decide) dX10_isLetter_16 ?_
    refine tt_vi X rfl mX10_104 (q_isIn l g ln ext _ _ _ _ (by omega) (by omega) (by omega)) (k_60 _ _) ⟨_, rfl, rfl⟩ rfl rfl (Nat.le_of_ble_eq_true rfl) (by decide) (by decide) (by decide) dX10_isLetter_18 (fun z18 L18 μ18 hp => ?_)
    obtain ⟨rfl, e18, hz18⟩ := hp
    replace e18 := e18.symm
    subst e18
    try simp (disch := decide) only [ot_rd, ot_rs, ot_rf, ot_ucd, ot_ucs] at hz18
    refine tt_if_eq X 28 (by first | omega | (simp (disch := decide) only [ot_rd, ot_rs, ot_rf, ot_ucd, ot_ucs]; omega)) dX10_isLetter_21 (by decide) (fun b21 => ?_) (fun b21 => ?_)
    · refine tt_iconst X dX10_isLetter_28 ?_
      refine tt_zret X ⟨hr.1, hr.2.1⟩ (by omega) (by decide) (by decide) dX10_isLetter_29 ?_
      refine ⟨rfl, rfl, ?_⟩
      first | omega | (split <;> omega)
    · refine tt_iconst X dX10_isLetter_24 ?_
      refine tt_goto X 29 dX10_isLetter_25 (by decide) ?_
      refine tt_zret X ⟨hr.1, hr.2.1⟩ (by omega) (by decide) (by decide) dX10_isLetter_29 ?_
      refine ⟨rfl, rfl, ?_⟩
      first | omega | (split <;> omega)
set_option maxRecDepth 100000 in
set_option maxHeartbeats 4000000 in
theorem q_isDigit (l : Launch) (g : ot_G) (ln : Nat) (ext : ot_L) (μ : ot_M) (v : Int) (hv : -2147483648 ≤ v ∧ v ≤ 2147483647)  : ot_C l g yX10_isDigit cX10_isDigit 2 (some .boolean) 1 0 0 [.inr 60, .inl v] (LL ln ext) μ (ot_pi (fun r L2 μ2 => L2 = LL ln ext ∧ μ2 = μ ∧ r = (if 48 ≤ v ∧ v ≤ 57 then 1 else 0))) := by
  refine ot_enter (by decide) (Nat.le_of_ble_eq_true rfl) ?_
  intro p e s m args below meth c X hr
  refine tt_aload_n X rfl dX10_isDigit_0 ?_
  refine tt_iload_n X rfl dX10_isDigit_1 ?_
  refine tt_bipush X (by decide) dX10_isDigit_2 ?_
  refine tt_bipush X (by decide) dX10_isDigit_4 ?_
  refine tt_vi X rfl mX10_104 (q_isIn l g ln ext _ _ _ _ (by omega) (by omega) (by omega)) (k_60 _ _) ⟨_, rfl, rfl⟩ rfl rfl (Nat.le_of_ble_eq_true rfl) (by decide) (by decide) (by decide) dX10_isDigit_6 (fun z6 L6 μ6 hp => ?_)
  obtain ⟨rfl, e6, hz6⟩ := hp
  replace e6 := e6.symm
  subst e6
  try simp (disch := decide) only [ot_rd, ot_rs, ot_rf, ot_ucd, ot_ucs] at hz6
  refine tt_zret X ⟨hr.1, hr.2.1⟩ (by omega) (by decide) (by decide) dX10_isDigit_9 ?_
  refine ⟨rfl, rfl, ?_⟩
  first | omega | (split <;> omega)
set_option maxRecDepth 100000 in
set_option maxHeartbeats 4000000 in
theorem q_isMarkSign (l : Launch) (g : ot_G) (ln : Nat) (ext : ot_L) (μ : ot_M) (v : Int) (hv : -2147483648 ≤ v ∧ v ≤ 2147483647)  : ot_C l g yX10_isMarkSign cX10_isMarkSign 2 (some .boolean) 0 0 0 [.inr 60, .inl v] (LL ln ext) μ (ot_pi (fun r L2 μ2 => L2 = LL ln ext ∧ μ2 = μ ∧ r = (if v = 59 ∨ v = 43 ∨ v = 45 ∨ v = 42 ∨ v = 47 ∨ v = 40 ∨ v = 41 ∨ v = 60 ∨ v = 61 ∨ v = 62 then 1 else 0))) := by
  refine ot_enter (by decide) (Nat.le_of_ble_eq_true rfl) ?_
  intro p e s m args below meth c X hr
  refine tt_iload_n X rfl dX10_isMarkSign_0 ?_
  refine tt_bipush X (by decide) dX10_isMarkSign_1 ?_
  refine tt_icmp_eq X 60 (by omega) dX10_isMarkSign_3 (by decide) (fun b3 => ?_) (fun b3 => ?_)
  · refine tt_iconst X dX10_isMarkSign_60 ?_
    refine tt_goto X 65 dX10_isMarkSign_61 (by decide) ?_
    refine tt_zret X ⟨hr.1, hr.2.1⟩ (by omega) (by decide) (by decide) dX10_isMarkSign_65 ?_
    refine ⟨rfl, rfl, ?_⟩
    first | omega | (split <;> omega)
  · refine tt_iload_n X rfl dX10_isMarkSign_6 ?_
    refine tt_bipush X (by decide) dX10_isMarkSign_7 ?_
    refine tt_icmp_eq X 60 (by omega) dX10_isMarkSign_9 (by decide) (fun b9 => ?_) (fun b9 => ?_)
    · refine tt_iconst X dX10_isMarkSign_60 ?_
      refine tt_goto X 65 dX10_isMarkSign_61 (by decide) ?_
      refine tt_zret X ⟨hr.1, hr.2.1⟩ (by omega) (by decide) (by decide) dX10_isMarkSign_65 ?_
      refine ⟨rfl, rfl, ?_⟩
      first | omega | (split <;> omega)
    · refine tt_iload_n X rfl dX10_isMarkSign_12 ?_
      refine tt_bipush X (by decide) dX10_isMarkSign_13 ?_
      refine tt_icmp_eq X 60 (by omega) dX10_isMarkSign_15 (by decide) (fun b15 => ?_) (fun b15 => ?_)
      · refine tt_iconst X dX10_isMarkSign_60 ?_
        refine tt_goto X 65 dX10_isMarkSign_61 (by decide) ?_
        refine tt_zret X ⟨hr.1, hr.2.1⟩ (by omega) (by decide) (by decide) dX10_isMarkSign_65 ?_
        refine ⟨rfl, rfl, ?_⟩
        first | omega | (split <;> omega)
      · refine tt_iload_n X rfl dX10_isMarkSign_18 ?_
        refine tt_bipush X (by decide) dX10_isMarkSign_19 ?_
        refine tt_icmp_eq X 60 (by omega) dX10_isMarkSign_21 (by decide) (fun b21 => ?_) (fun b21 => ?_)
        · refine tt_iconst X dX10_isMarkSign_60 ?_
          refine tt_goto X 65 dX10_isMarkSign_61 (by decide) ?_
          refine tt_zret X ⟨hr.1, hr.2.1⟩ (by omega) (by decide) (by decide) dX10_isMarkSign_65 ?_
          refine ⟨rfl, rfl, ?_⟩
          first | omega | (split <;> omega)
        · refine tt_iload_n X rfl dX10_isMarkSign_24 ?_
          refine tt_bipush X (by decide) dX10_isMarkSign_25 ?_
          refine tt_icmp_eq X 60 (by omega) dX10_isMarkSign_27 (by decide) (fun b27 => ?_) (fun b27 => ?_)
          · refine tt_iconst X dX10_isMarkSign_60 ?_
            refine tt_goto X 65 dX10_isMarkSign_61 (by decide) ?_
            refine tt_zret X ⟨hr.1, hr.2.1⟩ (by omega) (by decide) (by decide) dX10_isMarkSign_65 ?_
            refine ⟨rfl, rfl, ?_⟩
            first | omega | (split <;> omega)
          · refine tt_iload_n X rfl dX10_isMarkSign_30 ?_
            refine tt_bipush X (by decide) dX10_isMarkSign_31 ?_
            refine tt_icmp_eq X 60 (by omega) dX10_isMarkSign_33 (by decide) (fun b33 => ?_) (fun b33 => ?_)
            · refine tt_iconst X dX10_isMarkSign_60 ?_
              refine tt_goto X 65 dX10_isMarkSign_61 (by decide) ?_
              refine tt_zret X ⟨hr.1, hr.2.1⟩ (by omega) (by decide) (by decide) dX10_isMarkSign_65 ?_
              refine ⟨rfl, rfl, ?_⟩
              first | omega | (split <;> omega)
            · refine tt_iload_n X rfl dX10_isMarkSign_36 ?_
              refine tt_bipush X (by decide) dX10_isMarkSign_37 ?_
              refine tt_icmp_eq X 60 (by omega) dX10_isMarkSign_39 (by decide) (fun b39 => ?_) (fun b39 => ?_)
              · refine tt_iconst X dX10_isMarkSign_60 ?_
                refine tt_goto X 65 dX10_isMarkSign_61 (by decide) ?_
                refine tt_zret X ⟨hr.1, hr.2.1⟩ (by omega) (by decide) (by decide) dX10_isMarkSign_65 ?_
                refine ⟨rfl, rfl, ?_⟩
                first | omega | (split <;> omega)
              · refine tt_iload_n X rfl dX10_isMarkSign_42 ?_
                refine tt_bipush X (by decide) dX10_isMarkSign_43 ?_
                refine tt_icmp_eq X 60 (by omega) dX10_isMarkSign_45 (by decide) (fun b45 => ?_) (fun b45 => ?_)
                · refine tt_iconst X dX10_isMarkSign_60 ?_
                  refine tt_goto X 65 dX10_isMarkSign_61 (by decide) ?_
                  refine tt_zret X ⟨hr.1, hr.2.1⟩ (by omega) (by decide) (by decide) dX10_isMarkSign_65 ?_
                  refine ⟨rfl, rfl, ?_⟩
                  first | omega | (split <;> omega)
                · refine tt_iload_n X rfl dX10_isMarkSign_48 ?_
                  refine tt_bipush X (by decide) dX10_isMarkSign_49 ?_
                  refine tt_icmp_eq X 60 (by omega) dX10_isMarkSign_51 (by decide) (fun b51 => ?_) (fun b51 => ?_)
                  · refine tt_iconst X dX10_isMarkSign_60 ?_
                    refine tt_goto X 65 dX10_isMarkSign_61 (by decide) ?_
                    refine tt_zret X ⟨hr.1, hr.2.1⟩ (by omega) (by decide) (by decide) dX10_isMarkSign_65 ?_
                    refine ⟨rfl, rfl, ?_⟩
                    first | omega | (split <;> omega)
                  · refine tt_iload_n X rfl dX10_isMarkSign_54 ?_
                    refine tt_bipush X (by decide) dX10_isMarkSign_55 ?_
                    refine tt_icmp_ne X 64 (by omega) dX10_isMarkSign_57 (by decide) (fun b57 => ?_) (fun b57 => ?_)
                    · refine tt_iconst X dX10_isMarkSign_64 ?_
                      refine tt_zret X ⟨hr.1, hr.2.1⟩ (by omega) (by decide) (by decide) dX10_isMarkSign_65 ?_
                      refine ⟨rfl, rfl, ?_⟩
                      first | omega | (split <;> omega)
                    · refine tt_iconst X dX10_isMarkSign_60 ?_
                      refine tt_goto X 65 dX10_isMarkSign_61 (by decide) ?_
                      refine tt_zret X ⟨hr.1, hr.2.1⟩ (by omega) (by decide) (by decide) dX10_isMarkSign_65 ?_
                      refine ⟨rfl, rfl, ?_⟩
                      first | omega | (split <;> omega)
set_option maxRecDepth 100000 in
set_option maxHeartbeats 4000000 in
theorem q_isWord (l : Launch) (g : ot_G) (ln : Nat) (ext : ot_L) (μ : ot_M) (w : Int) (hw : -2147483648 ≤ w ∧ w ≤ 2147483647) (hs : -2147483648 ≤ μ 60 20 ∧ μ 60 20 ≤ 2147483647) (hv : -2147483648 ≤ μ 60 21 ∧ μ 60 21 ≤ 2147483647) : ot_C l g yX10_isWord cX10_isWord 2 (some .boolean) 0 0 0 [.inr 60, .inl w] (LL ln ext) μ (ot_pi (fun r L2 μ2 => L2 = LL ln ext ∧ μ2 = μ ∧ r = (if μ 60 20 = 2 ∧ μ 60 21 = w then 1 else 0))) := by
  refine ot_enter (by decide) (Nat.le_of_ble_eq_true rfl) ?_
  intro p e s m args below meth c X hr
  refine tt_aload_n X rfl dX10_isWord_0 ?_
  refine tt_geti X fX10_145 (k_60 _ _) (by decide) (Or.inl rfl) dX10_isWord_1 ?_
  refine tt_iconst X dX10_isWord_4 ?_
  refine tt_icmp_ne X 20 (by omega) dX10_isWord_5 (by decide) (fun b5 => ?_) (fun b5 => ?_)
  · refine tt_iconst X dX10_isWord_20 ?_
    refine tt_zret X ⟨hr.1, hr.2.1⟩ (by omega) (by decide) (by decide) dX10_isWord_21 ?_
    refine ⟨rfl, rfl, ?_⟩
    first | omega | (split <;> omega)
  · refine tt_aload_n X rfl dX10_isWord_8 ?_
    refine tt_geti X fX10_148 (k_60 _ _) (by decide) (Or.inl rfl) dX10_isWord_9 ?_
    refine tt_iload_n X rfl dX10_isWord_12 ?_
    refine tt_icmp_ne X 20 (by omega) dX10_isWord_13 (by decide) (fun b13 => ?_) (fun b13 => ?_)
    · refine tt_iconst X dX10_isWord_20 ?_
      refine tt_zret X ⟨hr.1, hr.2.1⟩ (by omega) (by decide) (by decide) dX10_isWord_21 ?_
      refine ⟨rfl, rfl, ?_⟩
      first | omega | (split <;> omega)
    · refine tt_iconst X dX10_isWord_16 ?_
      refine tt_goto X 21 dX10_isWord_17 (by decide) ?_
      refine tt_zret X ⟨hr.1, hr.2.1⟩ (by omega) (by decide) (by decide) dX10_isWord_21 ?_
      refine ⟨rfl, rfl, ?_⟩
      first | omega | (split <;> omega)
set_option maxRecDepth 100000 in
set_option maxHeartbeats 4000000 in
theorem q_isSign (l : Launch) (g : ot_G) (ln : Nat) (ext : ot_L) (μ : ot_M) (w : Int) (hw : -2147483648 ≤ w ∧ w ≤ 2147483647) (hs : -2147483648 ≤ μ 60 20 ∧ μ 60 20 ≤ 2147483647) (hv : -2147483648 ≤ μ 60 21 ∧ μ 60 21 ≤ 2147483647) : ot_C l g yX10_isSign cX10_isSign 2 (some .boolean) 0 0 0 [.inr 60, .inl w] (LL ln ext) μ (ot_pi (fun r L2 μ2 => L2 = LL ln ext ∧ μ2 = μ ∧ r = (if μ 60 20 = 4 ∧ μ 60 21 = w then 1 else 0))) := by
  refine ot_enter (by decide) (Nat.le_of_ble_eq_true rfl) ?_
  intro p e s m args below meth c X hr
  refine tt_aload_n X rfl dX10_isSign_0 ?_
  refine tt_geti X fX10_145 (k_60 _ _) (by decide) (Or.inl rfl) dX10_isSign_1 ?_
  refine tt_iconst X dX10_isSign_4 ?_
  refine tt_icmp_ne X 20 (by omega) dX10_isSign_5 (by decide) (fun b5 => ?_) (fun b5 => ?_)
  · refine tt_iconst X dX10_isSign_20 ?_
    refine tt_zret X ⟨hr.1, hr.2.1⟩ (by omega) (by decide) (by decide) dX10_isSign_21 ?_
    refine ⟨rfl, rfl, ?_⟩
    first | omega | (split <;> omega)
  · refine tt_aload_n X rfl dX10_isSign_8 ?_
    refine tt_geti X fX10_148 (k_60 _ _) (by decide) (Or.inl rfl) dX10_isSign_9 ?_
    refine tt_iload_n X rfl dX10_isSign_12 ?_
    refine tt_icmp_ne X 20 (by omega) dX10_isSign_13 (by decide) (fun b13 => ?_) (fun b13 => ?_)
    · refine tt_iconst X dX10_isSign_20 ?_
      refine tt_zret X ⟨hr.1, hr.2.1⟩ (by omega) (by decide) (by decide) dX10_isSign_21 ?_
      refine ⟨rfl, rfl, ?_⟩
      first | omega | (split <;> omega)
    · refine tt_iconst X dX10_isSign_16 ?_
      refine tt_goto X 21 dX10_isSign_17 (by decide) ?_
      refine tt_zret X ⟨hr.1, hr.2.1⟩ (by omega) (by decide) (by decide) dX10_isSign_21 ?_
      refine ⟨rfl, rfl, ?_⟩
      first | omega | (split <;> omega)
set_option maxRecDepth 100000 in
set_option maxHeartbeats 4000000 in
theorem q_woundAt (l : Launch) (g : ot_G) (ln : Nat) (ext : ot_L) (μ : ot_M) (t i : Int)  (ht : 0 ≤ t ∧ t < 3) (hi : 0 ≤ i ∧ i < 120) : ot_C l g yX10_woundAt cX10_woundAt 3 (some .int) 0 0 0 [.inr 60, .inl t, .inl i] (LL ln ext) μ (ot_pi (fun r L2 μ2 => L2 = LL ln ext ∧ μ2 = μ ∧ r = (μ 65 (120 * t + i)))) := by
  refine ot_enter (by decide) (Nat.le_of_ble_eq_true rfl) ?_
  intro p e s m args below meth c X hr
  refine tt_aload_n X rfl dX10_woundAt_0 ?_
  refine tt_getr X fX10_26 (k_60 _ _) (by decide) ⟨nofun, nofun⟩ rfl dX10_woundAt_1 ?_
  refine tt_bipush X (by decide) dX10_woundAt_4 ?_
  refine tt_iload_n X rfl dX10_woundAt_6 ?_
  refine tt_imul X dX10_woundAt_7 ?_
  refine tt_iload_n X rfl dX10_woundAt_8 ?_
  refine tt_iadd X dX10_woundAt_9 ?_
  refine tt_iaload X (k_65 _ _) (by omega) dX10_woundAt_10 ?_
  refine tt_iret X ⟨hr.1, hr.2.1⟩ (by decide) (by decide) dX10_woundAt_11 ?_
  exact ⟨rfl, rfl, rfl⟩
set_option maxRecDepth 100000 in
set_option maxHeartbeats 4000000 in
theorem q_lengthOf (l : Launch) (g : ot_G) (ln : Nat) (ext : ot_L) (μ : ot_M) (a b : Int)  (ha : 0 ≤ a ∧ a < 24) (hb : 0 ≤ b ∧ b < 24) (hp : (0 ≤ μ 61 a ∧ μ 61 a ≤ 8) ∧ (0 ≤ μ 61 b ∧ μ 61 b ≤ 8) ∧ (0 ≤ μ 62 a ∧ μ 62 a ≤ 8) ∧ (0 ≤ μ 62 b ∧ μ 62 b ≤ 8)) : ot_C l g yX10_lengthOf cX10_lengthOf 5 (some .int) 1 0 0 [.inr 60, .inl a, .inl b] (LL ln ext) μ (ot_pi (fun r L2 μ2 => L2 = LL ln ext ∧ μ2 = μ ∧ r = (max ((μ 61 a - μ 61 b).natAbs : Int) ((μ 62 a - μ 62 b).natAbs : Int)))) := by
  refine ot_enter (by decide) (Nat.le_of_ble_eq_true rfl) ?_
  intro p e s m args below meth c X hr
  refine tt_aload_n X rfl dX10_lengthOf_0 ?_
  refine tt_aload_n X rfl dX10_lengthOf_1 ?_
  refine tt_getr X fX10_13 (k_60 _ _) (by decide) ⟨nofun, nofun⟩ rfl dX10_lengthOf_2 ?_
  refine tt_iload_n X rfl dX10_lengthOf_5 ?_
  refine tt_iaload X (k_61 _ _) (by omega) dX10_lengthOf_6 ?_
  refine tt_aload_n X rfl dX10_lengthOf_7 ?_
  refine tt_getr X fX10_13 (k_60 _ _) (by decide) ⟨nofun, nofun⟩ rfl dX10_lengthOf_8 ?_
  refine tt_iload_n X rfl dX10_lengthOf_11 ?_
  refine tt_iaload X (k_61 _ _) (by omega) dX10_lengthOf_12 ?_
  refine tt_isub X dX10_lengthOf_13 ?_
  refine tt_vi X rfl mX10_227 (q_without l g ln ext _ _ (by omega)) (k_60 _ _) ⟨_, rfl, rfl⟩ rfl rfl (Nat.le_of_ble_eq_true rfl) (by decide) (by decide) (by decide) dX10_lengthOf_14 (fun z14 L14 μ14 hp => ?_)
  obtain ⟨rfl, e14, hz14⟩ := hp
  replace e14 := e14.symm
  subst e14
  try simp (disch := decide) only [ot_rd, ot_rs, ot_rf, ot_ucd, ot_ucs] at hz14
  refine tt_istore_n X dX10_lengthOf_17 (by decide) ?_
  refine tt_aload_n X rfl dX10_lengthOf_18 ?_
  refine tt_aload_n X rfl dX10_lengthOf_19 ?_
  refine tt_getr X fX10_17 (k_60 _ _) (by decide) ⟨nofun, nofun⟩ rfl dX10_lengthOf_20 ?_
  refine tt_iload_n X rfl dX10_lengthOf_23 ?_
  refine tt_iaload X (k_62 _ _) (by first | omega | (simp (disch := decide) only [ot_rd, ot_rs, ot_rf, ot_ucd, ot_ucs]; omega)) dX10_lengthOf_24 ?_
  try simp (disch := decide) only [ot_rd, ot_rs, ot_rf, ot_ucd, ot_ucs]
  refine tt_aload_n X rfl dX10_lengthOf_25 ?_
  refine tt_getr X fX10_17 (k_60 _ _) (by decide) ⟨nofun, nofun⟩ rfl dX10_lengthOf_26 ?_
  refine tt_iload_n X rfl dX10_lengthOf_29 ?_
  refine tt_iaload X (k_62 _ _) (by first | omega | (simp (disch := decide) only [ot_rd, ot_rs, ot_rf, ot_ucd, ot_ucs]; omega)) dX10_lengthOf_30 ?_
  try simp (disch := decide) only [ot_rd, ot_rs, ot_rf, ot_ucd, ot_ucs]
  refine tt_isub X dX10_lengthOf_31 ?_
  refine tt_vi X rfl mX10_227 (q_without l g ln ext _ _ (by omega)) (k_60 _ _) ⟨_, rfl, rfl⟩ rfl rfl (Nat.le_of_ble_eq_true rfl) (by decide) (by decide) (by decide) dX10_lengthOf_32 (fun z32 L32 μ32 hp => ?_)
  obtain ⟨rfl, e32, hz32⟩ := hp
  replace e32 := e32.symm
  subst e32
  try simp (disch := decide) only [ot_rd, ot_rs, ot_rf, ot_ucd, ot_ucs] at hz32
  refine tt_istore X dX10_lengthOf_35 (by decide) ?_
  refine tt_iload_n X rfl dX10_lengthOf_37 ?_
  refine tt_iload X rfl dX10_lengthOf_38 ?_
  refine tt_icmp_le X 47 (by first | omega | (simp (disch := decide) only [ot_rd, ot_rs, ot_rf, ot_ucd, ot_ucs]; omega)) dX10_lengthOf_40 (by decide) (fun b40 => ?_) (fun b40 => ?_)
  · refine tt_iload X rfl dX10_lengthOf_47 ?_
    refine tt_iret X ⟨hr.1, hr.2.1⟩ (by decide) (by decide) dX10_lengthOf_49 ?_
    refine ⟨rfl, rfl, ?_⟩
    first | omega | (split <;> omega)
  · refine tt_iload_n X rfl dX10_lengthOf_43 ?_
    refine tt_goto X 49 dX10_lengthOf_44 (by decide) ?_
    refine tt_iret X ⟨hr.1, hr.2.1⟩ (by decide) (by decide) dX10_lengthOf_49 ?_
    refine ⟨rfl, rfl, ?_⟩
    first | omega | (split <;> omega)
set_option maxRecDepth 100000 in
set_option maxHeartbeats 4000000 in
theorem q_canGo (l : Launch) (g : ot_G) (ln : Nat) (ext : ot_L) (μ : ot_M) (t q : Int) (hq : -2147483648 ≤ q ∧ q ≤ 2147483647) (ht : 0 ≤ t ∧ t < 3) (hs : 0 ≤ μ 64 t ∧ μ 64 t ≤ 120) (hw : -2147483648 ≤ μ 65 (120 * t + (μ 64 t - 1)) ∧ μ 65 (120 * t + (μ 64 t - 1)) ≤ 2147483647) : ot_C l g yX10_canGo cX10_canGo 3 (some .boolean) 1 0 0 [.inr 60, .inl t, .inl q] (LL ln ext) μ (ot_pi (fun r L2 μ2 => L2 = LL ln ext ∧ μ2 = μ ∧ r = (if μ 64 t < 120 ∧ (μ 64 t = 0 ∨ μ 65 (120 * t + (μ 64 t - 1)) ≠ q) then 1 else 0))) := by
  refine ot_enter (by decide) (Nat.le_of_ble_eq_true rfl) ?_
  intro p e s m args below meth c X hr
  refine tt_aload_n X rfl dX10_canGo_0 ?_
  refine tt_getr X fX10_23 (k_60 _ _) (by decide) ⟨nofun, nofun⟩ rfl dX10_canGo_1 ?_
  refine tt_iload_n X rfl dX10_canGo_4 ?_
  refine tt_iaload X (k_64 _ _) (by omega) dX10_canGo_5 ?_
  refine tt_bipush X (by decide) dX10_canGo_6 ?_
  refine tt_icmp_ge X 41 (by omega) dX10_canGo_8 (by decide) (fun b8 => ?_) (fun b8 => ?_)
  · refine tt_iconst X dX10_canGo_41 ?_
    refine tt_zret X ⟨hr.1, hr.2.1⟩ (by omega) (by decide) (by decide) dX10_canGo_42 ?_
    refine ⟨rfl, rfl, ?_⟩
    first | (rw [if_pos (by omega)]) | (rw [if_neg (by omega)])
  · refine tt_aload_n X rfl dX10_canGo_11 ?_
    refine tt_getr X fX10_23 (k_60 _ _) (by decide) ⟨nofun, nofun⟩ rfl dX10_canGo_12 ?_
    refine tt_iload_n X rfl dX10_canGo_15 ?_
    refine tt_iaload X (k_64 _ _) (by omega) dX10_canGo_16 ?_
    refine tt_if_eq X 37 (by omega) dX10_canGo_17 (by decide) (fun b17 => ?_) (fun b17 => ?_)
    · refine tt_iconst X dX10_canGo_37 ?_
      refine tt_goto X 42 dX10_canGo_38 (by decide) ?_
      refine tt_zret X ⟨hr.1, hr.2.1⟩ (by omega) (by decide) (by decide) dX10_canGo_42 ?_
      refine ⟨rfl, rfl, ?_⟩
      first | (rw [if_pos (by omega)]) | (rw [if_neg (by omega)])
    · refine tt_aload_n X rfl dX10_canGo_20 ?_
      refine tt_iload_n X rfl dX10_canGo_21 ?_
      refine tt_aload_n X rfl dX10_canGo_22 ?_
      refine tt_getr X fX10_23 (k_60 _ _) (by decide) ⟨nofun, nofun⟩ rfl dX10_canGo_23 ?_
      refine tt_iload_n X rfl dX10_canGo_26 ?_
      refine tt_iaload X (k_64 _ _) (by omega) dX10_canGo_27 ?_
      refine tt_iconst X dX10_canGo_28 ?_
      refine tt_isub X dX10_canGo_29 ?_
      refine tt_vi X rfl mX10_239 (q_woundAt l g ln ext _ _ _ (by omega) (by omega)) (k_60 _ _) ⟨_, rfl, rfl⟩ rfl rfl (Nat.le_of_ble_eq_true rfl) (by decide) (by decide) (by decide) dX10_canGo_30 (fun z30 L30 μ30 hp => ?_)
      obtain ⟨rfl, e30, hz30⟩ := hp
      replace e30 := e30.symm
      subst e30
      try simp (disch := decide) only [ot_rd, ot_rs, ot_rf, ot_ucd, ot_ucs] at hz30
      refine tt_iload_n X rfl dX10_canGo_33 ?_
      refine tt_icmp_eq X 41 (by first | omega | (simp (disch := decide) only [ot_rd, ot_rs, ot_rf, ot_ucd, ot_ucs]; omega)) dX10_canGo_34 (by decide) (fun b34 => ?_) (fun b34 => ?_)
      · refine tt_iconst X dX10_canGo_41 ?_
        refine tt_zret X ⟨hr.1, hr.2.1⟩ (by omega) (by decide) (by decide) dX10_canGo_42 ?_
        refine ⟨rfl, rfl, ?_⟩
        first | (rw [if_pos (by omega)]) | (rw [if_neg (by omega)])
      · refine tt_iconst X dX10_canGo_37 ?_
        refine tt_goto X 42 dX10_canGo_38 (by decide) ?_
        refine tt_zret X ⟨hr.1, hr.2.1⟩ (by omega) (by decide) (by decide) dX10_canGo_42 ?_
        refine ⟨rfl, rfl, ?_⟩
        first | (rw [if_pos (by omega)]) | (rw [if_neg (by omega)])
set_option maxRecDepth 100000 in
set_option maxHeartbeats 4000000 in
theorem q_isRule (l : Launch) (g : ot_G) (ln : Nat) (ext : ot_L) (μ : ot_M) (k s : Int) (hk : -2147483648 ≤ k ∧ k ≤ 2147483647) (hs : -2147483648 ≤ s ∧ s ≤ 2147483647) (hs2 : 0 ≤ μ 60 2 ∧ μ 60 2 ≤ 24) : ot_C l g yX10_isRule cX10_isRule 3 (some .boolean) 1 0 0 [.inr 60, .inl k, .inl s] (LL ln ext) μ (ot_pi (fun r L2 μ2 => L2 = LL ln ext ∧ μ2 = μ ∧ r = (if 0 < μ 60 2 ∧ 0 ≤ k ∧ k ≤ 99 ∧ 0 ≤ s ∧ s ≤ 99 then 1 else 0))) := by
  refine ot_enter (by decide) (Nat.le_of_ble_eq_true rfl) ?_
  intro p e s m args below meth c X hr
  refine tt_aload_n X rfl dX10_isRule_0 ?_
  refine tt_geti X fX10_101 (k_60 _ _) (by decide) (Or.inl rfl) dX10_isRule_1 ?_
  refine tt_if_le X 33 (by omega) dX10_isRule_4 (by decide) (fun b4 => ?_) (fun b4 => ?_)
  · refine tt_iconst X dX10_isRule_33 ?_
    refine tt_zret X ⟨hr.1, hr.2.1⟩ (by omega) (by decide) (by decide) dX10_isRule_34 ?_
    refine ⟨rfl, rfl, ?_⟩
    first | omega | (split <;> omega)
  · refine tt_aload_n X rfl dX10_isRule_7 ?_
    refine tt_iload_n X rfl dX10_isRule_8 ?_
    refine tt_iconst X dX10_isRule_9 ?_
    refine tt_bipush X (by decide) dX10_isRule_10 ?_
    refine tt_vi X rfl mX10_104 (q_isIn l g ln ext _ _ _ _ (by omega) (by omega) (by omega)) (k_60 _ _) ⟨_, rfl, rfl⟩ rfl rfl (Nat.le_of_ble_eq_true rfl) (by decide) (by decide) (by decide) dX10_isRule_12 (fun z12 L12 μ12 hp => ?_)
    obtain ⟨rfl, e12, hz12⟩ := hp
    replace e12 := e12.symm
    subst e12
    try simp (disch := decide) only [ot_rd, ot_rs, ot_rf, ot_ucd, ot_ucs] at hz12
    refine tt_if_eq X 33 (by first | omega | (simp (disch := decide) only [ot_rd, ot_rs, ot_rf, ot_ucd, ot_ucs]; omega)) dX10_isRule_15 (by decide) (fun b15 => ?_) (fun b15 => ?_)
    · refine tt_iconst X dX10_isRule_33 ?_
      refine tt_zret X ⟨hr.1, hr.2.1⟩ (by omega) (by decide) (by decide) dX10_isRule_34 ?_
      refine ⟨rfl, rfl, ?_⟩
      first | omega | (split <;> omega)
    · refine tt_aload_n X rfl dX10_isRule_18 ?_
      refine tt_iload_n X rfl dX10_isRule_19 ?_
      refine tt_iconst X dX10_isRule_20 ?_
      refine tt_bipush X (by decide) dX10_isRule_21 ?_
      refine tt_vi X rfl mX10_104 (q_isIn l g ln ext _ _ _ _ (by omega) (by omega) (by omega)) (k_60 _ _) ⟨_, rfl, rfl⟩ rfl rfl (Nat.le_of_ble_eq_true rfl) (by decide) (by decide) (by decide) dX10_isRule_23 (fun z23 L23 μ23 hp => ?_)
      obtain ⟨rfl, e23, hz23⟩ := hp
      replace e23 := e23.symm
      subst e23
      try simp (disch := decide) only [ot_rd, ot_rs, ot_rf, ot_ucd, ot_ucs] at hz23
      refine tt_if_eq X 33 (by first | omega | (simp (disch := decide) only [ot_rd, ot_rs, ot_rf, ot_ucd, ot_ucs]; omega)) dX10_isRule_26 (by decide) (fun b26 => ?_) (fun b26 => ?_)
      · refine tt_iconst X dX10_isRule_33 ?_
        refine tt_zret X ⟨hr.1, hr.2.1⟩ (by omega) (by decide) (by decide) dX10_isRule_34 ?_
        refine ⟨rfl, rfl, ?_⟩
        first | omega | (split <;> omega)
      · refine tt_iconst X dX10_isRule_29 ?_
        refine tt_goto X 34 dX10_isRule_30 (by decide) ?_
        refine tt_zret X ⟨hr.1, hr.2.1⟩ (by omega) (by decide) (by decide) dX10_isRule_34 ?_
        refine ⟨rfl, rfl, ?_⟩
        first | omega | (split <;> omega)
set_option maxRecDepth 100000 in
set_option maxHeartbeats 4000000 in
theorem q_allLines (l : Launch) (g : ot_G) (ln : Nat) (ext : ot_L) (μ : ot_M)   : ot_C l g yX10_allLines cX10_allLines 1 (some .int) 0 0 0 [.inr 60] (LL ln ext) μ (ot_pi (fun r L2 μ2 => L2 = LL ln ext ∧ μ2 = μ ∧ r = (ot_shl 1 (μ 60 11) - 1))) := by
  refine ot_enter (by decide) (Nat.le_of_ble_eq_true rfl) ?_
  intro p e s m args below meth c X hr
  refine tt_iconst X dX10_allLines_0 ?_
  refine tt_aload_n X rfl dX10_allLines_1 ?_
  refine tt_geti X fX10_108 (k_60 _ _) (by decide) (Or.inl rfl) dX10_allLines_2 ?_
  refine tt_ishl X dX10_allLines_5 ?_
  refine tt_iconst X dX10_allLines_6 ?_
  refine tt_isub X dX10_allLines_7 ?_
  refine tt_iret X ⟨hr.1, hr.2.1⟩ (by decide) (by decide) dX10_allLines_8 ?_
  exact ⟨rfl, rfl, rfl⟩
set_option maxRecDepth 100000 in
set_option maxHeartbeats 4000000 in
theorem q_errs (l : Launch) (g : ot_G) (ln : Nat) (ext : ot_L) (μ : ot_M) (k : Int)   : ot_C l g yX10_errs cX10_errs 2 (some .int) 0 0 0 [.inr 60, .inl k] (LL ln ext) μ (ot_pi (fun r L2 μ2 => L2 = LL ln ext ∧ μ2 = (ot_up (ot_up μ 60 33 k) 60 34 (μ 60 19)) ∧ r = (-1))) := by
  refine ot_enter (by decide) (Nat.le_of_ble_eq_true rfl) ?_
  intro p e s m args below meth c X hr
  refine tt_aload_n X rfl dX10_errs_0 ?_
  refine tt_iload_n X rfl dX10_errs_1 ?_
  refine tt_puti X fX10_164 kc_10 (k_60 _ _) (by decide) (fun q hq => by cases hq; rfl) rfl dX10_errs_2 ?_
  refine tt_aload_n X rfl dX10_errs_5 ?_
  refine tt_aload_n X rfl dX10_errs_6 ?_
  refine tt_geti X fX10_142 (k_60 _ _) (by decide) (Or.inl rfl) dX10_errs_7 ?_
  try simp (disch := decide) only [ot_rd, ot_rs, ot_rf, ot_ucd, ot_ucs]
  refine tt_puti X fX10_167 kc_10 (k_60 _ _) (by decide) (fun q hq => by cases hq; rfl) rfl dX10_errs_10 ?_
  refine tt_iconst X dX10_errs_13 ?_
  refine tt_iret X ⟨hr.1, hr.2.1⟩ (by decide) (by decide) dX10_errs_14 ?_
  refine ⟨rfl, ?_, rfl⟩
  rfl
set_option maxRecDepth 100000 in
set_option maxHeartbeats 4000000 in
theorem q_emits (l : Launch) (g : ot_G) (ln : Nat) (ext : ot_L) (μ : ot_M) (w v : Int)  (hc : 0 ≤ μ 60 29 ∧ μ 60 29 < 400) : ot_C l g yX10_emits cX10_emits 3 none 0 0 0 [.inr 60, .inl w, .inl v] (LL ln ext) μ (ot_pv (fun L2 μ2 => L2 = LL ln ext ∧ μ2 = (ot_up (ot_up (ot_up μ 77 (400 + μ 60 29) w) 78 (400 + μ 60 29) v) 60 29 (μ 60 29 + 1)))) := by
  refine ot_enter (by decide) (Nat.le_of_ble_eq_true rfl) ?_
  intro p e s m args below meth c X hr
  refine tt_aload_n X rfl dX10_emits_0 ?_
  refine tt_getr X fX10_62 (k_60 _ _) (by decide) ⟨nofun, nofun⟩ rfl dX10_emits_1 ?_
  refine tt_sipush X (by decide) dX10_emits_4 ?_
  refine tt_aload_n X rfl dX10_emits_7 ?_
  refine tt_geti X fX10_170 (k_60 _ _) (by decide) (Or.inl rfl) dX10_emits_8 ?_
  refine tt_iadd X dX10_emits_11 ?_
  refine tt_iload_n X rfl dX10_emits_12 ?_
  refine tt_iastore X (k_77 _ _) (by omega) dX10_emits_13 ?_
  refine tt_aload_n X rfl dX10_emits_14 ?_
  refine tt_getr X fX10_65 (k_60 _ _) (by decide) ⟨nofun, nofun⟩ rfl dX10_emits_15 ?_
  refine tt_sipush X (by decide) dX10_emits_18 ?_
  refine tt_aload_n X rfl dX10_emits_21 ?_
  refine tt_geti X fX10_170 (k_60 _ _) (by decide) (Or.inl rfl) dX10_emits_22 ?_
  try simp (disch := decide) only [ot_rd, ot_rs, ot_rf, ot_ucd, ot_ucs]
  refine tt_iadd X dX10_emits_25 ?_
  refine tt_iload_n X rfl dX10_emits_26 ?_
  refine tt_iastore X (k_78 _ _) (by first | omega | (simp (disch := decide) only [ot_rd, ot_rs, ot_rf, ot_ucd, ot_ucs]; omega)) dX10_emits_27 ?_
  refine tt_aload_n X rfl dX10_emits_28 ?_
  refine tt_aload_n X rfl dX10_emits_29 ?_
  refine tt_geti X fX10_170 (k_60 _ _) (by decide) (Or.inl rfl) dX10_emits_30 ?_
  try simp (disch := decide) only [ot_rd, ot_rs, ot_rf, ot_ucd, ot_ucs]
  refine tt_iconst X dX10_emits_33 ?_
  refine tt_iadd X dX10_emits_34 ?_
  refine tt_puti X fX10_170 kc_10 (k_60 _ _) (by decide) (fun q hq => by cases hq; rfl) rfl dX10_emits_35 ?_
  refine tt_vret X ⟨hr.1, hr.2.1⟩ (by decide) (by decide) dX10_emits_38 ?_
  exact ⟨rfl, rfl⟩
set_option maxRecDepth 100000 in
set_option maxHeartbeats 4000000 in
theorem q_waits (l : Launch) (g : ot_G) (ln : Nat) (ext : ot_L) (μ : ot_M) (w : Int)  (hc : 0 ≤ μ 60 32 ∧ μ 60 32 < 40) : ot_C l g yX10_waits cX10_waits 2 none 0 0 0 [.inr 60, .inl w] (LL ln ext) μ (ot_pv (fun L2 μ2 => L2 = LL ln ext ∧ μ2 = (ot_up (ot_up μ 79 (μ 60 32) w) 60 32 (μ 60 32 + 1)))) := by
  refine ot_enter (by decide) (Nat.le_of_ble_eq_true rfl) ?_
  intro p e s m args below meth c X hr
  refine tt_aload_n X rfl dX10_waits_0 ?_
  refine tt_getr X fX10_68 (k_60 _ _) (by decide) ⟨nofun, nofun⟩ rfl dX10_waits_1 ?_
  refine tt_aload_n X rfl dX10_waits_4 ?_
  refine tt_geti X fX10_196 (k_60 _ _) (by decide) (Or.inl rfl) dX10_waits_5 ?_
  refine tt_iload_n X rfl dX10_waits_8 ?_
  refine tt_iastore X (k_79 _ _) (by omega) dX10_waits_9 ?_
  refine tt_aload_n X rfl dX10_waits_10 ?_
  refine tt_aload_n X rfl dX10_waits_11 ?_
  refine tt_geti X fX10_196 (k_60 _ _) (by decide) (Or.inl rfl) dX10_waits_12 ?_
  try simp (disch := decide) only [ot_rd, ot_rs, ot_rf, ot_ucd, ot_ucs]
  refine tt_iconst X dX10_waits_15 ?_
  refine tt_iadd X dX10_waits_16 ?_
  refine tt_puti X fX10_196 kc_10 (k_60 _ _) (by decide) (fun q hq => by cases hq; rfl) rfl dX10_waits_17 ?_
  refine tt_vret X ⟨hr.1, hr.2.1⟩ (by decide) (by decide) dX10_waits_20 ?_
  exact ⟨rfl, rfl⟩
set_option maxRecDepth 100000 in
set_option maxHeartbeats 4000000 in
theorem q_goesOn (l : Launch) (g : ot_G) (ln : Nat) (ext : ot_L) (μ : ot_M) (t q : Int)  (ht : 0 ≤ t ∧ t < 3) (hs : 0 ≤ μ 64 t ∧ μ 64 t < 120) : ot_C l g yX10_goesOn cX10_goesOn 3 none 0 0 0 [.inr 60, .inl t, .inl q] (LL ln ext) μ (ot_pv (fun L2 μ2 => L2 = LL ln ext ∧ μ2 = (ot_up (ot_up μ 65 (120 * t + μ 64 t) q) 64 t (μ 64 t + 1)))) := by
  refine ot_enter (by decide) (Nat.le_of_ble_eq_true rfl) ?_
  intro p e s m args below meth c X hr
  refine tt_aload_n X rfl dX10_goesOn_0 ?_
  refine tt_getr X fX10_26 (k_60 _ _) (by decide) ⟨nofun, nofun⟩ rfl dX10_goesOn_1 ?_
  refine tt_bipush X (by decide) dX10_goesOn_4 ?_
  refine tt_iload_n X rfl dX10_goesOn_6 ?_
  refine tt_imul X dX10_goesOn_7 ?_
  refine tt_aload_n X rfl dX10_goesOn_8 ?_
  refine tt_getr X fX10_23 (k_60 _ _) (by decide) ⟨nofun, nofun⟩ rfl dX10_goesOn_9 ?_
  refine tt_iload_n X rfl dX10_goesOn_12 ?_
  refine tt_iaload X (k_64 _ _) (by omega) dX10_goesOn_13 ?_
  refine tt_iadd X dX10_goesOn_14 ?_
  refine tt_iload_n X rfl dX10_goesOn_15 ?_
  refine tt_iastore X (k_65 _ _) (by omega) dX10_goesOn_16 ?_
  refine tt_aload_n X rfl dX10_goesOn_17 ?_
  refine tt_getr X fX10_23 (k_60 _ _) (by decide) ⟨nofun, nofun⟩ rfl dX10_goesOn_18 ?_
  refine tt_iload_n X rfl dX10_goesOn_21 ?_
  refine tt_aload_n X rfl dX10_goesOn_22 ?_
  refine tt_getr X fX10_23 (k_60 _ _) (by decide) ⟨nofun, nofun⟩ rfl dX10_goesOn_23 ?_
  refine tt_iload_n X rfl dX10_goesOn_26 ?_
  refine tt_iaload X (k_64 _ _) (by first | omega | (simp (disch := decide) only [ot_rd, ot_rs, ot_rf, ot_ucd, ot_ucs]; omega)) dX10_goesOn_27 ?_
  try simp (disch := decide) only [ot_rd, ot_rs, ot_rf, ot_ucd, ot_ucs]
  refine tt_iconst X dX10_goesOn_28 ?_
  refine tt_iadd X dX10_goesOn_29 ?_
  refine tt_iastore X (k_64 _ _) (by first | omega | (simp (disch := decide) only [ot_rd, ot_rs, ot_rf, ot_ucd, ot_ucs]; omega)) dX10_goesOn_30 ?_
  refine tt_vret X ⟨hr.1, hr.2.1⟩ (by decide) (by decide) dX10_goesOn_31 ?_
  exact ⟨rfl, rfl⟩

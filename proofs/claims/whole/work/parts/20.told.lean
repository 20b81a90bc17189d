set_option maxRecDepth 100000 in
set_option maxHeartbeats 4000000 in
theorem c_isThread (l : Launch) (g : ot_G) (ln : Nat) (ext : ot_L) (μ : ot_M) (a : Int) (ha : -2147483648 ≤ a ∧ a ≤ 2147483647) : ot_C l g yX9_isThread cX9_isThread 1 (some .boolean) 0 0 0 [.inl a] (LL ln ext) μ (ot_pi (fun r L2 μ2 => L2 = LL ln ext ∧ μ2 = μ ∧ r = (if 0 ≤ a ∧ a < 3 then 1 else 0))) := by
  refine ot_enter (by decide) (Nat.le_of_ble_eq_true rfl) ?_
  intro p e s m args below meth c X hr
  refine tt_iload_n X rfl dX9_isThread_0 ?_
  refine tt_if_lt X 13 (by omega) dX9_isThread_1 (by decide) (fun b1 => ?_) (fun b1 => ?_)
  · refine tt_iconst X dX9_isThread_13 ?_
    refine tt_zret X ⟨hr.1, hr.2.1⟩ (by omega) (by decide) (by decide) dX9_isThread_14 ?_
    refine ⟨rfl, rfl, ?_⟩
    first | omega | (split <;> omega)
  · refine tt_iload_n X rfl dX9_isThread_4 ?_
    refine tt_iconst X dX9_isThread_5 ?_
    refine tt_icmp_ge X 13 (by omega) dX9_isThread_6 (by decide) (fun b6 => ?_) (fun b6 => ?_)
    · refine tt_iconst X dX9_isThread_13 ?_
      refine tt_zret X ⟨hr.1, hr.2.1⟩ (by omega) (by decide) (by decide) dX9_isThread_14 ?_
      refine ⟨rfl, rfl, ?_⟩
      first | omega | (split <;> omega)
    · refine tt_iconst X dX9_isThread_9 ?_
      refine tt_goto X 14 dX9_isThread_10 (by decide) ?_
      refine tt_zret X ⟨hr.1, hr.2.1⟩ (by omega) (by decide) (by decide) dX9_isThread_14 ?_
      refine ⟨rfl, rfl, ?_⟩
      first | omega | (split <;> omega)
set_option maxRecDepth 100000 in
set_option maxHeartbeats 4000000 in
theorem c_isPicture (l : Launch) (g : ot_G) (ln : Nat) (ext : ot_L) (μ : ot_M) (a : Int) (ha : -2147483648 ≤ a ∧ a ≤ 2147483647) : ot_C l g yX9_isPicture cX9_isPicture 1 (some .boolean) 0 0 0 [.inl a] (LL ln ext) μ (ot_pi (fun r L2 μ2 => L2 = LL ln ext ∧ μ2 = μ ∧ r = (if 0 ≤ a ∧ a < 4 then 1 else 0))) := by
  refine ot_enter (by decide) (Nat.le_of_ble_eq_true rfl) ?_
  intro p e s m args below meth c X hr
  refine tt_iload_n X rfl dX9_isPicture_0 ?_
  refine tt_if_lt X 13 (by omega) dX9_isPicture_1 (by decide) (fun b1 => ?_) (fun b1 => ?_)
  · refine tt_iconst X dX9_isPicture_13 ?_
    refine tt_zret X ⟨hr.1, hr.2.1⟩ (by omega) (by decide) (by decide) dX9_isPicture_14 ?_
    refine ⟨rfl, rfl, ?_⟩
    first | omega | (split <;> omega)
  · refine tt_iload_n X rfl dX9_isPicture_4 ?_
    refine tt_iconst X dX9_isPicture_5 ?_
    refine tt_icmp_ge X 13 (by omega) dX9_isPicture_6 (by decide) (fun b6 => ?_) (fun b6 => ?_)
    · refine tt_iconst X dX9_isPicture_13 ?_
      refine tt_zret X ⟨hr.1, hr.2.1⟩ (by omega) (by decide) (by decide) dX9_isPicture_14 ?_
      refine ⟨rfl, rfl, ?_⟩
      first | omega | (split <;> omega)
    · refine tt_iconst X dX9_isPicture_9 ?_
      refine tt_goto X 14 dX9_isPicture_10 (by decide) ?_
      refine tt_zret X ⟨hr.1, hr.2.1⟩ (by omega) (by decide) (by decide) dX9_isPicture_14 ?_
      refine ⟨rfl, rfl, ?_⟩
      first | omega | (split <;> omega)
set_option maxRecDepth 100000 in
set_option maxHeartbeats 4000000 in
theorem c_isPoint (l : Launch) (g : ot_G) (ln : Nat) (ext : ot_L) (μ : ot_M) (x y : Int) (hx : -2147483648 ≤ x ∧ x ≤ 2147483647) (hy : -2147483648 ≤ y ∧ y ≤ 2147483647) (hs : 2 ≤ μ 1 11 ∧ μ 1 11 ≤ 8) : ot_C l g yX8_isPoint cX8_isPoint 3 (some .boolean) 0 0 0 [.inr 1, .inl x, .inl y] (LL ln ext) μ (ot_pi (fun r L2 μ2 => L2 = LL ln ext ∧ μ2 = μ ∧ r = (if 0 ≤ x ∧ x ≤ μ 1 11 ∧ 0 ≤ y ∧ y ≤ μ 1 11 then 1 else 0))) := by
  refine ot_enter (by decide) (Nat.le_of_ble_eq_true rfl) ?_
  intro p e s m args below meth c X hr
  refine tt_iload_n X rfl dX8_isPoint_0 ?_
  refine tt_if_lt X 28 (by omega) dX8_isPoint_1 (by decide) (fun b1 => ?_) (fun b1 => ?_)
  · refine tt_iconst X dX8_isPoint_28 ?_
    refine tt_zret X ⟨hr.1, hr.2.1⟩ (by omega) (by decide) (by decide) dX8_isPoint_29 ?_
    refine ⟨rfl, rfl, ?_⟩
    first | omega | (split <;> omega)
  · refine tt_iload_n X rfl dX8_isPoint_4 ?_
    refine tt_aload_n X rfl dX8_isPoint_5 ?_
    refine tt_geti X fX8_53 (k_1 _ _) (by decide) (Or.inl rfl) dX8_isPoint_6 ?_
    refine tt_icmp_gt X 28 (by omega) dX8_isPoint_9 (by decide) (fun b9 => ?_) (fun b9 => ?_)
    · refine tt_iconst X dX8_isPoint_28 ?_
      refine tt_zret X ⟨hr.1, hr.2.1⟩ (by omega) (by decide) (by decide) dX8_isPoint_29 ?_
      refine ⟨rfl, rfl, ?_⟩
      first | omega | (split <;> omega)
    · refine tt_iload_n X rfl dX8_isPoint_12 ?_
      refine tt_if_lt X 28 (by omega) dX8_isPoint_13 (by decide) (fun b13 => ?_) (fun b13 => ?_)
      · refine tt_iconst X dX8_isPoint_28 ?_
        refine tt_zret X ⟨hr.1, hr.2.1⟩ (by omega) (by decide) (by decide) dX8_isPoint_29 ?_
        refine ⟨rfl, rfl, ?_⟩
        first | omega | (split <;> omega)
      · refine tt_iload_n X rfl dX8_isPoint_16 ?_
        refine tt_aload_n X rfl dX8_isPoint_17 ?_
        refine tt_geti X fX8_53 (k_1 _ _) (by decide) (Or.inl rfl) dX8_isPoint_18 ?_
        refine tt_icmp_gt X 28 (by omega) dX8_isPoint_21 (by decide) (fun b21 => ?_) (fun b21 => ?_)
        · refine tt_iconst X dX8_isPoint_28 ?_
          refine tt_zret X ⟨hr.1, hr.2.1⟩ (by omega) (by decide) (by decide) dX8_isPoint_29 ?_
          refine ⟨rfl, rfl, ?_⟩
          first | omega | (split <;> omega)
        · refine tt_iconst X dX8_isPoint_24 ?_
          refine tt_goto X 29 dX8_isPoint_25 (by decide) ?_
          refine tt_zret X ⟨hr.1, hr.2.1⟩ (by omega) (by decide) (by decide) dX8_isPoint_29 ?_
          refine ⟨rfl, rfl, ?_⟩
          first | omega | (split <;> omega)
set_option maxRecDepth 100000 in
set_option maxHeartbeats 4000000 in
theorem c_squareAt (l : Launch) (g : ot_G) (ln : Nat) (ext : ot_L) (μ : ot_M) (x y : Int) (hx : -2147483648 ≤ x ∧ x ≤ 2147483647) (hy : -2147483648 ≤ y ∧ y ≤ 2147483647) (hs : 2 ≤ μ 1 11 ∧ μ 1 11 ≤ 8) : ot_C l g yX8_squareAt cX8_squareAt 3 (some .int) 0 0 0 [.inr 1, .inl x, .inl y] (LL ln ext) μ (ot_pi (fun r L2 μ2 => L2 = LL ln ext ∧ μ2 = μ ∧ r = (if 0 ≤ x ∧ x < μ 1 11 ∧ 0 ≤ y ∧ y < μ 1 11 then x + 8 * y else -1))) := by
  refine ot_enter (by decide) (Nat.le_of_ble_eq_true rfl) ?_
  intro p e s m args below meth c X hr
  refine tt_iload_n X rfl dX8_squareAt_0 ?_
  refine tt_if_lt X 33 (by omega) dX8_squareAt_1 (by decide) (fun b1 => ?_) (fun b1 => ?_)
  · refine tt_iconst X dX8_squareAt_33 ?_
    refine tt_iret X ⟨hr.1, hr.2.1⟩ (by decide) (by decide) dX8_squareAt_34 ?_
    refine ⟨rfl, rfl, ?_⟩
    first | omega | (split <;> omega)
  · refine tt_iload_n X rfl dX8_squareAt_4 ?_
    refine tt_aload_n X rfl dX8_squareAt_5 ?_
    refine tt_geti X fX8_53 (k_1 _ _) (by decide) (Or.inl rfl) dX8_squareAt_6 ?_
    refine tt_icmp_ge X 33 (by omega) dX8_squareAt_9 (by decide) (fun b9 => ?_) (fun b9 => ?_)
    · refine tt_iconst X dX8_squareAt_33 ?_
      refine tt_iret X ⟨hr.1, hr.2.1⟩ (by decide) (by decide) dX8_squareAt_34 ?_
      refine ⟨rfl, rfl, ?_⟩
      first | omega | (split <;> omega)
    · refine tt_iload_n X rfl dX8_squareAt_12 ?_
      refine tt_if_lt X 33 (by omega) dX8_squareAt_13 (by decide) (fun b13 => ?_) (fun b13 => ?_)
      · refine tt_iconst X dX8_squareAt_33 ?_
        refine tt_iret X ⟨hr.1, hr.2.1⟩ (by decide) (by decide) dX8_squareAt_34 ?_
        refine ⟨rfl, rfl, ?_⟩
        first | omega | (split <;> omega)
      · refine tt_iload_n X rfl dX8_squareAt_16 ?_
        refine tt_aload_n X rfl dX8_squareAt_17 ?_
        refine tt_geti X fX8_53 (k_1 _ _) (by decide) (Or.inl rfl) dX8_squareAt_18 ?_
        refine tt_icmp_ge X 33 (by omega) dX8_squareAt_21 (by decide) (fun b21 => ?_) (fun b21 => ?_)
        · refine tt_iconst X dX8_squareAt_33 ?_
          refine tt_iret X ⟨hr.1, hr.2.1⟩ (by decide) (by decide) dX8_squareAt_34 ?_
          refine ⟨rfl, rfl, ?_⟩
          first | omega | (split <;> omega)
        · refine tt_iload_n X rfl dX8_squareAt_24 ?_
          refine tt_bipush X (by decide) dX8_squareAt_25 ?_
          refine tt_iload_n X rfl dX8_squareAt_27 ?_
          refine tt_imul X dX8_squareAt_28 ?_
          refine tt_iadd X dX8_squareAt_29 ?_
          refine tt_goto X 34 dX8_squareAt_30 (by decide) ?_
          refine tt_iret X ⟨hr.1, hr.2.1⟩ (by decide) (by decide) dX8_squareAt_34 ?_
          refine ⟨rfl, rfl, ?_⟩
          first | omega | (split <;> omega)
set_option maxRecDepth 100000 in
set_option maxHeartbeats 4000000 in
theorem c_isPin (l : Launch) (g : ot_G) (ln : Nat) (ext : ot_L) (μ : ot_M) (a : Int) (ha : -2147483648 ≤ a ∧ a ≤ 2147483647) (hs : 0 ≤ μ 1 12 ∧ μ 1 12 ≤ 24) : ot_C l g yX8_isPin cX8_isPin 2 (some .boolean) 0 0 0 [.inr 1, .inl a] (LL ln ext) μ (ot_pi (fun r L2 μ2 => L2 = LL ln ext ∧ μ2 = μ ∧ r = (if 0 ≤ a ∧ a < μ 1 12 then 1 else 0))) := by
  refine ot_enter (by decide) (Nat.le_of_ble_eq_true rfl) ?_
  intro p e s m args below meth c X hr
  refine tt_iload_n X rfl dX8_isPin_0 ?_
  refine tt_if_lt X 16 (by omega) dX8_isPin_1 (by decide) (fun b1 => ?_) (fun b1 => ?_)
  · refine tt_iconst X dX8_isPin_16 ?_
    refine tt_zret X ⟨hr.1, hr.2.1⟩ (by omega) (by decide) (by decide) dX8_isPin_17 ?_
    refine ⟨rfl, rfl, ?_⟩
    first | omega | (split <;> omega)
  · refine tt_iload_n X rfl dX8_isPin_4 ?_
    refine tt_aload_n X rfl dX8_isPin_5 ?_
    refine tt_geti X fX8_57 (k_1 _ _) (by decide) (Or.inl rfl) dX8_isPin_6 ?_
    refine tt_icmp_ge X 16 (by omega) dX8_isPin_9 (by decide) (fun b9 => ?_) (fun b9 => ?_)
    · refine tt_iconst X dX8_isPin_16 ?_
      refine tt_zret X ⟨hr.1, hr.2.1⟩ (by omega) (by decide) (by decide) dX8_isPin_17 ?_
      refine ⟨rfl, rfl, ?_⟩
      first | omega | (split <;> omega)
    · refine tt_iconst X dX8_isPin_12 ?_
      refine tt_goto X 17 dX8_isPin_13 (by decide) ?_
      refine tt_zret X ⟨hr.1, hr.2.1⟩ (by omega) (by decide) (by decide) dX8_isPin_17 ?_
      refine ⟨rfl, rfl, ?_⟩
      first | omega | (split <;> omega)
set_option maxRecDepth 100000 in
set_option maxHeartbeats 4000000 in
theorem c_isLine (l : Launch) (g : ot_G) (ln : Nat) (ext : ot_L) (μ : ot_M) (a b : Int) (ha : -2147483648 ≤ a ∧ a ≤ 2147483647) (hb : -2147483648 ≤ b ∧ b ≤ 2147483647) (hs : 0 ≤ μ 1 12 ∧ μ 1 12 ≤ 24) : ot_C l g yX8_isLine cX8_isLine 3 (some .boolean) 1 0 0 [.inr 1, .inl a, .inl b] (LL ln ext) μ (ot_pi (fun r L2 μ2 => L2 = LL ln ext ∧ μ2 = μ ∧ r = (if 0 ≤ a ∧ a < μ 1 12 ∧ 0 ≤ b ∧ b < μ 1 12 ∧ a ≠ b then 1 else 0))) := by
  refine ot_enter (by decide) (Nat.le_of_ble_eq_true rfl) ?_
  intro p e s m args below meth c X hr
  refine tt_aload_n X rfl dX8_isLine_0 ?_
  refine tt_iload_n X rfl dX8_isLine_1 ?_
  refine tt_vi X rfl mX8_80 (c_isPin l g ln ext _ _ (by omega) (by omega)) (k_1 _ _) ⟨_, rfl, rfl⟩ rfl rfl (Nat.le_of_ble_eq_true rfl) (by decide) (by decide) (by decide) dX8_isLine_2 (fun z2 L2 μ2 hp => ?_)
  obtain ⟨rfl, e2, hz2⟩ := hp
  replace e2 := e2.symm
  subst e2
  try simp (disch := decide) only [ot_rd, ot_rs, ot_rf, ot_ucd, ot_ucs] at hz2
  refine tt_if_eq X 25 (by first | omega | (simp (disch := decide) only [ot_rd, ot_rs, ot_rf, ot_ucd, ot_ucs]; omega)) dX8_isLine_5 (by decide) (fun b5 => ?_) (fun b5 => ?_)
  · refine tt_iconst X dX8_isLine_25 ?_
    refine tt_zret X ⟨hr.1, hr.2.1⟩ (by omega) (by decide) (by decide) dX8_isLine_26 ?_
    refine ⟨rfl, rfl, ?_⟩
    first | omega | (split <;> omega)
  · refine tt_aload_n X rfl dX8_isLine_8 ?_
    refine tt_iload_n X rfl dX8_isLine_9 ?_
    refine tt_vi X rfl mX8_80 (c_isPin l g ln ext _ _ (by omega) (by omega)) (k_1 _ _) ⟨_, rfl, rfl⟩ rfl rfl (Nat.le_of_ble_eq_true rfl) (by decide) (by decide) (by decide) dX8_isLine_10 (fun z10 L10 μ10 hp => ?_)
    obtain ⟨rfl, e10, hz10⟩ := hp
    replace e10 := e10.symm
    subst e10
    try simp (disch := decide) only [ot_rd, ot_rs, ot_rf, ot_ucd, ot_ucs] at hz10
    refine tt_if_eq X 25 (by first | omega | (simp (disch := decide) only [ot_rd, ot_rs, ot_rf, ot_ucd, ot_ucs]; omega)) dX8_isLine_13 (by decide) (fun b13 => ?_) (fun b13 => ?_)
    · refine tt_iconst X dX8_isLine_25 ?_
      refine tt_zret X ⟨hr.1, hr.2.1⟩ (by omega) (by decide) (by decide) dX8_isLine_26 ?_
      refine ⟨rfl, rfl, ?_⟩
      first | omega | (split <;> omega)
    · refine tt_iload_n X rfl dX8_isLine_16 ?_
      refine tt_iload_n X rfl dX8_isLine_17 ?_
      refine tt_icmp_eq X 25 (by first | omega | (simp (disch := decide) only [ot_rd, ot_rs, ot_rf, ot_ucd, ot_ucs]; omega)) dX8_isLine_18 (by decide) (fun b18 => ?_) (fun b18 => ?_)
      · refine tt_iconst X dX8_isLine_25 ?_
        refine tt_zret X ⟨hr.1, hr.2.1⟩ (by omega) (by decide) (by decide) dX8_isLine_26 ?_
        refine ⟨rfl, rfl, ?_⟩
        first | omega | (split <;> omega)
      · refine tt_iconst X dX8_isLine_21 ?_
        refine tt_goto X 26 dX8_isLine_22 (by decide) ?_
        refine tt_zret X ⟨hr.1, hr.2.1⟩ (by omega) (by decide) (by decide) dX8_isLine_26 ?_
        refine ⟨rfl, rfl, ?_⟩
        first | omega | (split <;> omega)
set_option maxRecDepth 100000 in
set_option maxHeartbeats 4000000 in
theorem c_isFull (l : Launch) (g : ot_G) (ln : Nat) (ext : ot_L) (μ : ot_M) (t : Int) (ht : 0 ≤ t ∧ t < 3) (hs : 0 ≤ μ 8 t ∧ μ 8 t ≤ 120) : ot_C l g yX8_isFull cX8_isFull 2 (some .boolean) 0 0 0 [.inr 1, .inl t] (LL ln ext) μ (ot_pi (fun r L2 μ2 => L2 = LL ln ext ∧ μ2 = μ ∧ r = (if 120 ≤ μ 8 t then 1 else 0))) := by
  refine ot_enter (by decide) (Nat.le_of_ble_eq_true rfl) ?_
  intro p e s m args below meth c X hr
  refine tt_aload_n X rfl dX8_isFull_0 ?_
  refine tt_getr X fX8_30 (k_1 _ _) (by decide) ⟨nofun, nofun⟩ rfl dX8_isFull_1 ?_
  refine tt_iload_n X rfl dX8_isFull_4 ?_
  refine tt_iaload X (k_8 _ _) (by omega) dX8_isFull_5 ?_
  refine tt_bipush X (by decide) dX8_isFull_6 ?_
  refine tt_icmp_lt X 15 (by omega) dX8_isFull_8 (by decide) (fun b8 => ?_) (fun b8 => ?_)
  · refine tt_iconst X dX8_isFull_15 ?_
    refine tt_zret X ⟨hr.1, hr.2.1⟩ (by omega) (by decide) (by decide) dX8_isFull_16 ?_
    refine ⟨rfl, rfl, ?_⟩
    first | omega | (split <;> omega)
  · refine tt_iconst X dX8_isFull_11 ?_
    refine tt_goto X 16 dX8_isFull_12 (by decide) ?_
    refine tt_zret X ⟨hr.1, hr.2.1⟩ (by omega) (by decide) (by decide) dX8_isFull_16 ?_
    refine ⟨rfl, rfl, ?_⟩
    first | omega | (split <;> omega)
set_option maxRecDepth 100000 in
set_option maxHeartbeats 4000000 in
theorem c_pinFromEnd (l : Launch) (g : ot_G) (ln : Nat) (ext : ot_L) (μ : ot_M) (t n : Int) (ht : 0 ≤ t ∧ t < 3) (hn : 1 ≤ n ∧ n ≤ 2) (hs : 0 ≤ μ 8 t ∧ μ 8 t ≤ 120) : ot_C l g yX8_pinFromEnd cX8_pinFromEnd 4 (some .int) 0 0 0 [.inr 1, .inl t, .inl n] (LL ln ext) μ (ot_pi (fun r L2 μ2 => L2 = LL ln ext ∧ μ2 = μ ∧ r = (if n ≤ μ 8 t then μ 7 (t * 120 + (μ 8 t - n)) else -1))) := by
  refine ot_enter (by decide) (Nat.le_of_ble_eq_true rfl) ?_
  intro p e s m args below meth c X hr
  refine tt_aload_n X rfl dX8_pinFromEnd_0 ?_
  refine tt_getr X fX8_30 (k_1 _ _) (by decide) ⟨nofun, nofun⟩ rfl dX8_pinFromEnd_1 ?_
  refine tt_iload_n X rfl dX8_pinFromEnd_4 ?_
  refine tt_iaload X (k_8 _ _) (by omega) dX8_pinFromEnd_5 ?_
  refine tt_iload_n X rfl dX8_pinFromEnd_6 ?_
  refine tt_isub X dX8_pinFromEnd_7 ?_
  refine tt_istore_n X dX8_pinFromEnd_8 (by decide) ?_
  refine tt_iload_n X rfl dX8_pinFromEnd_9 ?_
  refine tt_if_lt X 27 (by omega) dX8_pinFromEnd_10 (by decide) (fun b10 => ?_) (fun b10 => ?_)
  · refine tt_iconst X dX8_pinFromEnd_27 ?_
    refine tt_iret X ⟨hr.1, hr.2.1⟩ (by decide) (by decide) dX8_pinFromEnd_28 ?_
    refine ⟨rfl, rfl, ?_⟩
    first | (rw [if_pos (by omega)]) | (rw [if_neg (by omega)])
  · refine tt_aload_n X rfl dX8_pinFromEnd_13 ?_
    refine tt_getr X fX8_27 (k_1 _ _) (by decide) ⟨nofun, nofun⟩ rfl dX8_pinFromEnd_14 ?_
    refine tt_iload_n X rfl dX8_pinFromEnd_17 ?_
    refine tt_bipush X (by decide) dX8_pinFromEnd_18 ?_
    refine tt_imul X dX8_pinFromEnd_20 ?_
    refine tt_iload_n X rfl dX8_pinFromEnd_21 ?_
    refine tt_iadd X dX8_pinFromEnd_22 ?_
    refine tt_iaload X (k_7 _ _) (by omega) dX8_pinFromEnd_23 ?_
    refine tt_goto X 28 dX8_pinFromEnd_24 (by decide) ?_
    refine tt_iret X ⟨hr.1, hr.2.1⟩ (by decide) (by decide) dX8_pinFromEnd_28 ?_
    refine ⟨rfl, rfl, ?_⟩
    first | (rw [if_pos (by omega)]) | (rw [if_neg (by omega)])
set_option maxRecDepth 100000 in
set_option maxHeartbeats 4000000 in
theorem c_lastPin (l : Launch) (g : ot_G) (ln : Nat) (ext : ot_L) (μ : ot_M) (t : Int) (ht : 0 ≤ t ∧ t < 3) (hs : 0 ≤ μ 8 t ∧ μ 8 t ≤ 120) : ot_C l g yX8_lastPin cX8_lastPin 2 (some .int) 1 0 0 [.inr 1, .inl t] (LL ln ext) μ (ot_pi (fun r L2 μ2 => L2 = LL ln ext ∧ μ2 = μ ∧ r = (if 1 ≤ μ 8 t then μ 7 (t * 120 + (μ 8 t - 1)) else -1))) := by
  refine ot_enter (by decide) (Nat.le_of_ble_eq_true rfl) ?_
  intro p e s m args below meth c X hr
  refine tt_aload_n X rfl dX8_lastPin_0 ?_
  refine tt_iload_n X rfl dX8_lastPin_1 ?_
  refine tt_iconst X dX8_lastPin_2 ?_
  refine tt_vi X rfl mX8_84 (c_pinFromEnd l g ln ext _ _ _ (by omega) (by omega) (by omega)) (k_1 _ _) ⟨_, rfl, rfl⟩ rfl rfl (Nat.le_of_ble_eq_true rfl) (by decide) (by decide) (by decide) dX8_lastPin_3 (fun z3 L3 μ3 hp => ?_)
  obtain ⟨rfl, e3, hz3⟩ := hp
  replace e3 := e3.symm
  subst e3
  try simp (disch := decide) only [ot_rd, ot_rs, ot_rf, ot_ucd, ot_ucs] at hz3
  refine tt_iret X ⟨hr.1, hr.2.1⟩ (by decide) (by decide) dX8_lastPin_6 ?_
  exact ⟨rfl, rfl, hz3⟩
set_option maxRecDepth 100000 in
set_option maxHeartbeats 4000000 in
theorem c_lengthOf (l : Launch) (g : ot_G) (ln : Nat) (ext : ot_L) (μ : ot_M) (a b : Int) (ha : 0 ≤ a ∧ a < 24) (hb : 0 ≤ b ∧ b < 24) (hp : (0 ≤ μ 2 a ∧ μ 2 a ≤ 8) ∧ (0 ≤ μ 2 b ∧ μ 2 b ≤ 8) ∧ (0 ≤ μ 3 a ∧ μ 3 a ≤ 8) ∧ (0 ≤ μ 3 b ∧ μ 3 b ≤ 8)) : ot_C l g yX8_lengthOf cX8_lengthOf 3 (some .int) 1 0 0 [.inr 1, .inl a, .inl b] (LL ln ext) μ (ot_pi (fun r L2 μ2 => L2 = LL ln ext ∧ μ2 = μ ∧ r = (max ((μ 2 a - μ 2 b).natAbs : Int) ((μ 3 a - μ 3 b).natAbs : Int)))) := by
  refine ot_enter (by decide) (Nat.le_of_ble_eq_true rfl) ?_
  intro p e s m args below meth c X hr
  refine tt_aload_n X rfl dX8_lengthOf_0 ?_
  refine tt_getr X fX8_9 (k_1 _ _) (by decide) ⟨nofun, nofun⟩ rfl dX8_lengthOf_1 ?_
  refine tt_iload_n X rfl dX8_lengthOf_4 ?_
  refine tt_iaload X (k_2 _ _) (by omega) dX8_lengthOf_5 ?_
  refine tt_aload_n X rfl dX8_lengthOf_6 ?_
  refine tt_getr X fX8_9 (k_1 _ _) (by decide) ⟨nofun, nofun⟩ rfl dX8_lengthOf_7 ?_
  refine tt_iload_n X rfl dX8_lengthOf_10 ?_
  refine tt_iaload X (k_2 _ _) (by omega) dX8_lengthOf_11 ?_
  refine tt_isub X dX8_lengthOf_12 ?_
  refine tt_abs X rfl mX8_88 (by omega) (Nat.le_of_ble_eq_true rfl) (by decide) (by decide) dX8_lengthOf_13 ?_
  refine tt_aload_n X rfl dX8_lengthOf_16 ?_
  refine tt_getr X fX8_15 (k_1 _ _) (by decide) ⟨nofun, nofun⟩ rfl dX8_lengthOf_17 ?_
  refine tt_iload_n X rfl dX8_lengthOf_20 ?_
  refine tt_iaload X (k_3 _ _) (by omega) dX8_lengthOf_21 ?_
  refine tt_aload_n X rfl dX8_lengthOf_22 ?_
  refine tt_getr X fX8_15 (k_1 _ _) (by decide) ⟨nofun, nofun⟩ rfl dX8_lengthOf_23 ?_
  refine tt_iload_n X rfl dX8_lengthOf_26 ?_
  refine tt_iaload X (k_3 _ _) (by omega) dX8_lengthOf_27 ?_
  refine tt_isub X dX8_lengthOf_28 ?_
  refine tt_abs X rfl mX8_88 (by omega) (Nat.le_of_ble_eq_true rfl) (by decide) (by decide) dX8_lengthOf_29 ?_
  refine tt_max X rfl mX8_94 (by omega) (Nat.le_of_ble_eq_true rfl) (by decide) (by decide) dX8_lengthOf_32 ?_
  refine tt_iret X ⟨hr.1, hr.2.1⟩ (by decide) (by decide) dX8_lengthOf_35 ?_
  exact ⟨rfl, rfl, rfl⟩

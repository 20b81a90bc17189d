set_option maxRecDepth 100000 in
set_option maxHeartbeats 4000000 in
theorem c_floorDiv (l : Launch) (g : ot_G) (ln : Nat) (ext : ot_L) (μ : ot_M) (x y : Int) (hx : 0 ≤ x ∧ x ≤ 2147483647) (hy : 0 < y ∧ y ≤ 2147483647) : ot_C l g yJ9_floorDiv_7cf53 cJ9_floorDiv_7cf53 3 (some .int) 0 0 0 [.inl x, .inl y] (LL ln ext) μ (ot_pi (fun r L2 μ2 => L2 = LL ln ext ∧ μ2 = μ ∧ r = x / y)) := by
  refine ot_enterF (by decide +kernel) (Nat.le_of_ble_eq_true rfl) ?_
  intro p e s m args below meth c X hr
  refine tt_iload_n X rfl dJ9_floorDiv_7cf53_0 ?_
  refine tt_iload_n X rfl dJ9_floorDiv_7cf53_1 ?_
  refine tt_idiv X (by omega) dJ9_floorDiv_7cf53_2 ?_
  refine tt_istore_n X dJ9_floorDiv_7cf53_3 (by decide) ?_
  refine tt_iload_n X rfl dJ9_floorDiv_7cf53_4 ?_
  refine tt_iload_n X rfl dJ9_floorDiv_7cf53_5 ?_
  refine tt_ixor X dJ9_floorDiv_7cf53_6 ?_
  have hX := bo_xor_pos hx (show 0 ≤ y ∧ y ≤ 2147483647 by omega)
  refine tt_if_ge X 21 (by omega) dJ9_floorDiv_7cf53_7 (by decide) (fun b7 => ?_) (fun b7 => ?_)
  · refine tt_iload_n X rfl dJ9_floorDiv_7cf53_21 ?_
    refine tt_iret X ⟨hr.1, hr.2.1⟩ (by decide) (by decide) dJ9_floorDiv_7cf53_22 ?_
    exact ⟨rfl, rfl, bo_div hx hy⟩
  · exact absurd b7 (by omega)
set_option maxRecDepth 100000 in
set_option maxHeartbeats 4000000 in
theorem q_inSquare (l : Launch) (g : ot_G) (ln : Nat) (ext : ot_L) (μ : ot_M) (v n : Int) (hv : 0 ≤ v ∧ v ≤ 2147483647) (hn : 0 < n ∧ n ≤ 2147483647) (hS : 2 ≤ μ 60 1 ∧ μ 60 1 ≤ 8) : ot_C l g yX10_inSquare cX10_inSquare 3 (some .int) 0 0 0 [.inr 60, .inl v, .inl n] (LL ln ext) μ (ot_pi (fun r L2 μ2 => L2 = LL ln ext ∧ μ2 = μ ∧ r = min (v / n) (μ 60 1 - 1))) := by
  refine ot_enter (by decide) (Nat.le_of_ble_eq_true rfl) ?_
  intro p e s m args below meth c X hr
  have hD := bo_div hv hn
  have hD0 := Int.ediv_nonneg hv.1 (show 0 ≤ n by omega)
  have hD1 : v / n ≤ v := Int.ediv_le_self _ hv.1
  refine tt_iload_n X rfl dX10_inSquare_0 ?_
  refine tt_iload_n X rfl dX10_inSquare_1 ?_
  refine tt_idiv X (by omega) dX10_inSquare_2 ?_
  refine tt_top hD ?_
  refine tt_aload_n X rfl dX10_inSquare_3 ?_
  refine tt_geti X fX10_7 (k_60 _ _) (by decide) (Or.inl rfl) dX10_inSquare_4 ?_
  refine tt_icmp_ge X 16 (by omega) dX10_inSquare_7 (by decide) (fun b7 => ?_) (fun b7 => ?_)
  · refine tt_aload_n X rfl dX10_inSquare_16 ?_
    refine tt_geti X fX10_7 (k_60 _ _) (by decide) (Or.inl rfl) dX10_inSquare_17 ?_
    refine tt_iconst X dX10_inSquare_20 ?_
    refine tt_isub X dX10_inSquare_21 ?_
    refine tt_iret X ⟨hr.1, hr.2.1⟩ (by decide) (by decide) dX10_inSquare_22 ?_
    refine ⟨rfl, rfl, ?_⟩
    first | omega | (split <;> omega)
  · refine tt_iload_n X rfl dX10_inSquare_10 ?_
    refine tt_iload_n X rfl dX10_inSquare_11 ?_
    refine tt_idiv X (by omega) dX10_inSquare_12 ?_
    refine tt_top hD ?_
    refine tt_goto X 22 dX10_inSquare_13 (by decide) ?_
    refine tt_iret X ⟨hr.1, hr.2.1⟩ (by decide) (by decide) dX10_inSquare_22 ?_
    refine ⟨rfl, rfl, ?_⟩
    first | omega | (split <;> omega)

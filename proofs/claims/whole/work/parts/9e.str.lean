def stO (g : ot_G) (q v N : Nat) (b : List Int) : Prop := (∀ U : State, g.2.2.2.2 U g.1 → va_O "java/lang/String" q (ot_A g) U g.1) ∧ (∀ U : State, g.2.2.2.2 U g.1 → va_OF "java/lang/String" "coder" "B" (ot_i 0) q (ot_A g) U g.1) ∧ (∀ U : State, g.2.2.2.2 U g.1 → va_OF "java/lang/String" "value" "[B" (.ref v) q (ot_A g) U g.1) ∧ (∀ U : State, g.2.2.2.2 U g.1 → va_T .byte v N (fun j => ot_i (b.getD j 0)) (ot_A g) U g.1) ∧ N ≤ 1000 ∧ ∀ j, 0 ≤ b.getD j 0 ∧ b.getD j 0 ≤ 127
def stZ (g : ot_G) : Prop := (∀ U : State, g.2.2.2.2 U g.1 → va_Z "java/lang/String" "COMPACT_STRINGS" "Z" (ot_i 1) (ot_A g) U g.1) ∧ ∃ v : Value, v.category = 1 ∧ ∀ U : State, g.2.2.2.2 U g.1 → va_Z "jdk/internal/util/Preconditions" "SIOOBE_FORMATTER" "Ljava/util/function/BiFunction;" v (ot_A g) U g.1
theorem c2i {x : Int} (h : 0 ≤ x ∧ x ≤ 255) : ((Int32.ofInt x).toUInt32 % 65536).toInt32 = Int32.ofInt x := by
  have key : ∀ n : Nat, n < 256 → ((Int32.ofInt (n : Int)).toUInt32 % 65536).toInt32 = Int32.ofInt (n : Int) := by decide +kernel
  have := key x.toNat (by omega)
  rw [Int.toNat_of_nonneg h.1] at this
  exact this
theorem b2i {x : Int} (h : 0 ≤ x ∧ x ≤ 255) : (Int32.ofInt x).toInt8.toInt32 = Int32.ofInt (if x ≤ 127 then x else x - 256) := by
  have key : ∀ n : Nat, n < 256 → (Int32.ofInt (n : Int)).toInt8.toInt32 = Int32.ofInt (if (n : Int) ≤ 127 then (n : Int) else (n : Int) - 256) := by decide +kernel
  have := key x.toNat (by omega)
  rw [Int.toNat_of_nonneg h.1] at this
  exact this
theorem a255 {x : Int} (h : 0 ≤ x ∧ x ≤ 255) : ot_and x 255 = x := by
  have := bo_and x.toNat 255 (by omega)
  rw [Int.toNat_of_nonneg h.1, show ((255 : Nat) : Int) = 255 from rfl] at this
  rw [this]
  have e : x.toNat &&& 255 = x.toNat % 256 := Nat.and_two_pow_sub_one_eq_mod x.toNat 8
  rw [e]
  omega
set_option maxRecDepth 100000 in
set_option maxHeartbeats 1000000 in
theorem s_isLatin1 (l : Launch) (g : ot_G) (L : ot_L) (μ : ot_M) (q v N : Nat) (b : List Int) (hO : stO g q v N b) (hZ : stZ g)  : ot_CV l g yJ0_isLatin1_aae02 cJ0_isLatin1_aae02 1 (some .boolean) 0 0 0 [.ref q] L μ (ot_pi (fun r L2 μ2 => L2 = L ∧ μ2 = μ ∧ r = 1)) := by
  refine ot_enterV (by intro w hw; simp only [List.mem_cons, List.not_mem_nil, or_false] at hw; subst hw; rfl) (by decide +kernel) (Nat.le_of_ble_eq_true rfl) ?_
  intro p e s m args below meth c X hr
  refine tv_gets X hZ.1 (ot_mem 596 (by decide +kernel) (by decide +kernel)) dJ0_isLatin1_aae02_0 ?_
  refine tv_if_eq X 17 (by first | omega | (simp (disch := decide) only [ot_rd, ot_rs, ot_rf, ot_ucd, ot_ucs]; omega)) dJ0_isLatin1_aae02_3 (by decide) (fun b3 => ?_) (fun b3 => ?_)
  · exact absurd b3 (by omega)
  · refine tv_aload_n X rfl dJ0_isLatin1_aae02_6 ?_
    refine tv_strf X hO.2.1 (ot_mem 1499 (by decide +kernel) (by decide +kernel)) dJ0_isLatin1_aae02_7 ?_
    refine tv_if_ne X 17 (by first | omega | (simp (disch := decide) only [ot_rd, ot_rs, ot_rf, ot_ucd, ot_ucs]; omega)) dJ0_isLatin1_aae02_10 (by decide) (fun b10 => ?_) (fun b10 => ?_)
    · exact absurd b10 (by omega)
    · refine tv_iconst X dJ0_isLatin1_aae02_13 ?_
      refine tv_goto X 18 dJ0_isLatin1_aae02_14 (by decide) ?_
      refine tv_iret X ⟨hr.1, hr.2.1⟩ (Or.inr (Or.inl ⟨rfl, by omega⟩)) (by decide) (by decide) dJ0_isLatin1_aae02_18 ?_
      exact ⟨rfl, rfl, rfl⟩
set_option maxRecDepth 100000 in
set_option maxHeartbeats 1000000 in
theorem s_pcheck (l : Launch) (g : ot_G) (L : ot_L) (μ : ot_M) (i n : Int) (w : Value) (hw : w.category = 1) (hi : 0 ≤ i ∧ i < n ∧ n ≤ 1000)  : ot_CV l g yJ3_checkIndex_8e157 cJ3_checkIndex_8e157 3 (some .int) 0 0 0 [ot_i i, ot_i n, w] L μ (ot_pi (fun r L2 μ2 => L2 = L ∧ μ2 = μ ∧ r = i)) := by
  refine ot_enterV (by intro z hz; simp only [List.mem_cons, List.not_mem_nil, or_false] at hz; rcases hz with rfl | rfl | rfl <;> first | rfl | exact hw) (by decide +kernel) (Nat.le_of_ble_eq_true rfl) ?_
  intro p e s m args below meth c X hr
  refine tv_iload_n X rfl dJ3_checkIndex_8e157_0 ?_
  refine tv_if_lt X 9 (by omega) dJ3_checkIndex_8e157_1 (by decide) (fun b1 => ?_) (fun b1 => ?_)
  · exact absurd b1 (by omega)
  · refine tv_iload_n X rfl dJ3_checkIndex_8e157_4 ?_
    refine tv_iload_n X rfl dJ3_checkIndex_8e157_5 ?_
    refine tv_icmp_lt X 16 (by omega) dJ3_checkIndex_8e157_6 (by decide) (fun b6 => ?_) (fun b6 => ?_)
    · refine tv_iload_n X rfl dJ3_checkIndex_8e157_16 ?_
      refine tv_iret X ⟨hr.1, hr.2.1⟩ (Or.inl rfl) (by decide) (by decide) dJ3_checkIndex_8e157_17 ?_
      exact ⟨rfl, rfl, rfl⟩
    · exact absurd b6 (by omega)
set_option maxRecDepth 100000 in
set_option maxHeartbeats 1000000 in
theorem s_check (l : Launch) (g : ot_G) (L : ot_L) (μ : ot_M) (hZ : stZ g) (i n : Int) (hi : 0 ≤ i ∧ i < n ∧ n ≤ 1000)  : ot_CV l g yJ0_checkIndex_df160 cJ0_checkIndex_df160 2 none 1 0 0 [ot_i i, ot_i n] L μ (ot_pv (fun L2 μ2 => L2 = L ∧ μ2 = μ)) := by
  refine ot_enterV (by intro w hw; simp only [List.mem_cons, List.not_mem_nil, or_false] at hw; rcases hw with rfl | rfl <;> rfl) (by decide +kernel) (Nat.le_of_ble_eq_true rfl) ?_
  intro p e s m args below meth c X hr
  obtain ⟨w, hw, hw2⟩ := hZ.2
  refine tv_iload_n X rfl dJ0_checkIndex_df160_0 ?_
  refine tv_iload_n X rfl dJ0_checkIndex_df160_1 ?_
  refine tv_gets X hw2 (ot_mem 604 (by decide +kernel) (by decide +kernel)) dJ0_checkIndex_df160_2 ?_
  refine tv_callS X rfl mJ0_1059 (s_pcheck l g L μ i n w hw hi) rfl rfl (by unfold ot_c1; simp [Value.category, ot_i]) (by decide) (by decide) (by decide) dJ0_checkIndex_df160_5 (fun r L2 μ2 hp => ?_)
  obtain ⟨z, rfl, e1, e2, hz⟩ := hp
  replace e1 := e1.symm
  replace e2 := e2.symm
  subst e1
  subst e2
  refine tv_pop X rfl dJ0_checkIndex_df160_8 ?_
  refine tv_vret X ⟨hr.1, hr.2.1⟩ (by decide) (by decide) dJ0_checkIndex_df160_9 ?_
  exact ⟨rfl, rfl⟩
set_option maxRecDepth 100000 in
set_option maxHeartbeats 1000000 in
theorem s_lcharAt (l : Launch) (g : ot_G) (L : ot_L) (μ : ot_M) (q v N : Nat) (b : List Int) (hO : stO g q v N b) (hZ : stZ g) (i : Int) (hi : 0 ≤ i ∧ i < N)  : ot_CV l g yJ1_charAt_3b067 cJ1_charAt_3b067 2 (some .char) 2 0 0 [.ref v, ot_i i] L μ (ot_pi (fun r L2 μ2 => L2 = L ∧ μ2 = μ ∧ r = b.getD i.toNat 0)) := by
  refine ot_enterV (by intro w hw; simp only [List.mem_cons, List.not_mem_nil, or_false] at hw; rcases hw with rfl | rfl <;> rfl) (by decide +kernel) (Nat.le_of_ble_eq_true rfl) ?_
  intro p e s m args below meth c X hr
  have hN := hO.2.2.2.2.1
  have hb := hO.2.2.2.2.2 i.toNat
  refine tv_iload_n X rfl dJ1_charAt_3b067_0 ?_
  refine tv_aload_n X rfl dJ1_charAt_3b067_1 ?_
  refine tv_tlen X hO.2.2.2.1 dJ1_charAt_3b067_2 ?_
  refine tv_callS X rfl mJ1_9 (s_check l g L μ hZ i N (by omega)) rfl rfl (by unfold ot_c1; simp [Value.category, ot_i]) (by decide) (by decide) (by decide) dJ1_charAt_3b067_3 (fun r L2 μ2 hp => ?_)
  obtain ⟨rfl, e1, e2⟩ := hp
  replace e1 := e1.symm
  replace e2 := e2.symm
  subst e1
  subst e2
  refine tv_aload_n X rfl dJ1_charAt_3b067_6 ?_
  refine tv_iload_n X rfl dJ1_charAt_3b067_7 ?_
  refine tv_tb X hO.2.2.2.1 (by omega) rfl dJ1_charAt_3b067_8 ?_
  refine tv_sipush X (by decide) dJ1_charAt_3b067_9 ?_
  refine tv_iand X dJ1_charAt_3b067_12 ?_
  refine tv_top (a255 (by omega)) ?_
  refine tv_i2c X (c2i (by omega)) dJ1_charAt_3b067_13 ?_
  refine tv_iret X ⟨hr.1, hr.2.1⟩ (Or.inr (Or.inr (Or.inl ⟨rfl, by omega⟩))) (by decide) (by decide) dJ1_charAt_3b067_14 ?_
  exact ⟨rfl, rfl, rfl⟩
set_option maxRecDepth 100000 in
set_option maxHeartbeats 1000000 in
theorem s_charAt (l : Launch) (g : ot_G) (L : ot_L) (μ : ot_M) (q v N : Nat) (b : List Int) (hO : stO g q v N b) (hZ : stZ g) (i : Int) (hi : 0 ≤ i ∧ i < N)  : ot_CV l g yJ0_charAt_5068e cJ0_charAt_5068e 2 (some .char) 3 0 0 [.ref q, ot_i i] L μ (ot_pi (fun r L2 μ2 => L2 = L ∧ μ2 = μ ∧ r = b.getD i.toNat 0)) := by
  refine ot_enterV (by intro w hw; simp only [List.mem_cons, List.not_mem_nil, or_false] at hw; rcases hw with rfl | rfl <;> rfl) (by decide +kernel) (Nat.le_of_ble_eq_true rfl) ?_
  intro p e s m args below meth c X hr
  have hN := hO.2.2.2.2.1
  have hb := hO.2.2.2.2.2 i.toNat
  refine tv_aload_n X rfl dJ0_charAt_5068e_0 ?_
  refine tv_callV X rfl mJ0_492 (s_isLatin1 l g L μ q v N b hO hZ) hO.1 rfl rfl (by unfold ot_c1; simp [Value.category, ot_i]) (by decide) (by decide) (by decide) dJ0_charAt_5068e_1 (fun r L2 μ2 hp => ?_)
  obtain ⟨z, rfl, e1, e2, hz⟩ := hp
  replace e1 := e1.symm
  replace e2 := e2.symm
  subst e1
  subst e2
  refine tv_top hz ?_
  refine tv_if_eq X 16 (by first | omega | (simp (disch := decide) only [ot_rd, ot_rs, ot_rf, ot_ucd, ot_ucs]; omega)) dJ0_charAt_5068e_4 (by decide) (fun b4 => ?_) (fun b4 => ?_)
  · exact absurd b4 (by omega)
  · refine tv_aload_n X rfl dJ0_charAt_5068e_7 ?_
    refine tv_strf X hO.2.2.1 (ot_mem 1500 (by decide +kernel) (by decide +kernel)) dJ0_charAt_5068e_8 ?_
    refine tv_iload_n X rfl dJ0_charAt_5068e_11 ?_
    refine tv_callS X rfl mJ0_495 (s_lcharAt l g L μ q v N b hO hZ i hi) rfl rfl (by unfold ot_c1; simp [Value.category, ot_i]) (by decide) (by decide) (by decide) dJ0_charAt_5068e_12 (fun r L2 μ2 hp => ?_)
    obtain ⟨z, rfl, e1, e2, hz⟩ := hp
    replace e1 := e1.symm
    replace e2 := e2.symm
    subst e1
    subst e2
    refine tv_top hz ?_
    refine tv_iret X ⟨hr.1, hr.2.1⟩ (Or.inr (Or.inr (Or.inl ⟨rfl, by omega⟩))) (by decide) (by decide) dJ0_charAt_5068e_15 ?_
    exact ⟨rfl, rfl, rfl⟩
set_option maxRecDepth 100000 in
set_option maxHeartbeats 1000000 in
theorem s_coder (l : Launch) (g : ot_G) (L : ot_L) (μ : ot_M) (q v N : Nat) (b : List Int) (hO : stO g q v N b) (hZ : stZ g)  : ot_CV l g yJ0_coder_7d493 cJ0_coder_7d493 1 (some .byte) 0 0 0 [.ref q] L μ (ot_pi (fun r L2 μ2 => L2 = L ∧ μ2 = μ ∧ r = 0)) := by
  refine ot_enterV (by intro w hw; simp only [List.mem_cons, List.not_mem_nil, or_false] at hw; subst hw; rfl) (by decide +kernel) (Nat.le_of_ble_eq_true rfl) ?_
  intro p e s m args below meth c X hr
  refine tv_gets X hZ.1 (ot_mem 596 (by decide +kernel) (by decide +kernel)) dJ0_coder_7d493_0 ?_
  refine tv_if_eq X 13 (by first | omega | (simp (disch := decide) only [ot_rd, ot_rs, ot_rf, ot_ucd, ot_ucs]; omega)) dJ0_coder_7d493_3 (by decide) (fun b3 => ?_) (fun b3 => ?_)
  · exact absurd b3 (by omega)
  · refine tv_aload_n X rfl dJ0_coder_7d493_6 ?_
    refine tv_strf X hO.2.1 (ot_mem 1499 (by decide +kernel) (by decide +kernel)) dJ0_coder_7d493_7 ?_
    refine tv_goto X 14 dJ0_coder_7d493_10 (by decide) ?_
    refine tv_iret X ⟨hr.1, hr.2.1⟩ (Or.inr (Or.inr (Or.inr ⟨rfl, by omega⟩))) (by decide) (by decide) dJ0_coder_7d493_14 ?_
    exact ⟨rfl, rfl, rfl⟩
set_option maxRecDepth 100000 in
set_option maxHeartbeats 1000000 in
theorem s_length (l : Launch) (g : ot_G) (L : ot_L) (μ : ot_M) (q v N : Nat) (b : List Int) (hO : stO g q v N b) (hZ : stZ g)  : ot_CV l g yJ0_length_8abf5 cJ0_length_8abf5 1 (some .int) 1 0 0 [.ref q] L μ (ot_pi (fun r L2 μ2 => L2 = L ∧ μ2 = μ ∧ r = (N : Int))) := by
  refine ot_enterV (by intro w hw; simp only [List.mem_cons, List.not_mem_nil, or_false] at hw; subst hw; rfl) (by decide +kernel) (Nat.le_of_ble_eq_true rfl) ?_
  intro p e s m args below meth c X hr
  have hN := hO.2.2.2.2.1
  refine tv_aload_n X rfl dJ0_length_8abf5_0 ?_
  refine tv_strf X hO.2.2.1 (ot_mem 1500 (by decide +kernel) (by decide +kernel)) dJ0_length_8abf5_1 ?_
  refine tv_tlen X hO.2.2.2.1 dJ0_length_8abf5_4 ?_
  refine tv_aload_n X rfl dJ0_length_8abf5_5 ?_
  refine tv_callV X rfl mJ0_335 (s_coder l g L μ q v N b hO hZ) hO.1 rfl rfl (by unfold ot_c1; simp [Value.category, ot_i]) (by decide) (by decide) (by decide) dJ0_length_8abf5_6 (fun r L2 μ2 hp => ?_)
  obtain ⟨z, rfl, e1, e2, hz⟩ := hp
  replace e1 := e1.symm
  replace e2 := e2.symm
  subst e1
  subst e2
  refine tv_top hz ?_
  refine tv_ishr X dJ0_length_8abf5_9 ?_
  refine tv_iret X ⟨hr.1, hr.2.1⟩ (Or.inl rfl) (by decide) (by decide) dJ0_length_8abf5_10 ?_
  refine ⟨rfl, rfl, ?_⟩
  have := bo_shr N 0 (by omega) (by omega)
  rw [Nat.shiftRight_zero] at this
  exact this
set_option maxRecDepth 100000 in
set_option maxHeartbeats 1000000 in
theorem s_canEncode (l : Launch) (g : ot_G) (L : ot_L) (μ : ot_M) (x : Int) (hx : 0 ≤ x ∧ x ≤ 255)  : ot_CV l g yJ1_canEncode_9a6ad cJ1_canEncode_9a6ad 1 (some .boolean) 0 0 0 [ot_i x] L μ (ot_pi (fun r L2 μ2 => L2 = L ∧ μ2 = μ ∧ r = 1)) := by
  refine ot_enterV (by intro w hw; simp only [List.mem_cons, List.not_mem_nil, or_false] at hw; subst hw; rfl) (by decide +kernel) (Nat.le_of_ble_eq_true rfl) ?_
  intro p e s m args below meth c X hr
  refine tv_iload_n X rfl dJ1_canEncode_9a6ad_0 ?_
  refine tv_if_lt X 15 (by omega) dJ1_canEncode_9a6ad_1 (by decide) (fun b1 => ?_) (fun b1 => ?_)
  · exact absurd b1 (by omega)
  · refine tv_iload_n X rfl dJ1_canEncode_9a6ad_4 ?_
    refine tv_sipush X (by decide) dJ1_canEncode_9a6ad_5 ?_
    refine tv_icmp_gt X 15 (by omega) dJ1_canEncode_9a6ad_8 (by decide) (fun b8 => ?_) (fun b8 => ?_)
    · exact absurd b8 (by omega)
    · refine tv_iconst X dJ1_canEncode_9a6ad_11 ?_
      refine tv_goto X 16 dJ1_canEncode_9a6ad_12 (by decide) ?_
      refine tv_iret X ⟨hr.1, hr.2.1⟩ (Or.inr (Or.inl ⟨rfl, by omega⟩)) (by decide) (by decide) dJ1_canEncode_9a6ad_16 ?_
      exact ⟨rfl, rfl, rfl⟩

set_option maxRecDepth 100000 in
set_option maxHeartbeats 1000000 in
theorem q_dark (l : Launch) (g : ot_G) (ln : Nat) (ext : ot_L) (μ : ot_M) (h0 : μ 60 0 = 0) (x y : Int) (hx : -2147483648 ≤ x ∧ x ≤ 2147483647) (hy : -2147483648 ≤ y ∧ y ≤ 2147483647)(hG : gPin (μ 60 1) (μ 60 2) (μ 61) (μ 62)) (hW : gWnd (μ 60 2) (μ 64) (μ 65))  : ot_C l g yX10_dark cX10_dark 3 (some .int) 5 0 0 [.inr 60, .inl x, .inl y] (LL ln ext) μ (ot_pi (fun r L2 μ2 => L2 = LL ln ext ∧ r = (if 0 ≤ x ∧ x < μ 60 1 ∧ 0 ≤ y ∧ y < μ 60 1 then dk (μ 60 1) (μ 61) (μ 62) (μ 64) (μ 65) (μ 63) (8 * y + x) else -1) ∧ ∃ f D, μ2 = ot_uc (ot_uc μ 82 f) 83 D)) := by
  refine ot_enter (by decide) (Nat.le_of_ble_eq_true rfl) ?_
  intro p e s m args below meth c X hr
  have hS := hG.1
  refine tt_aload_n X rfl dX10_dark_0 ?_
  refine tt_iconst X dX10_dark_1 ?_
  refine tt_puti X fX10_98 kc_10 (k_60 _ _) (by decide) (fun q hq => by cases hq; rfl) rfl dX10_dark_2 ?_
  refine tt_mem (ot_nop h0) ?_
  refine tt_aload_n X rfl dX10_dark_5 ?_
  refine tt_iload_n X rfl dX10_dark_6 ?_
  refine tt_iload_n X rfl dX10_dark_7 ?_
  refine tt_vi X rfl mX10_121 (q_isSquare l g ln ext _ _ _ (by first | omega | (simp (disch := decide) only [ot_rd, ot_rs, ot_rf, ot_ucd, ot_ucs]; omega)) (by first | omega | (simp (disch := decide) only [ot_rd, ot_rs, ot_rf, ot_ucd, ot_ucs]; omega)) (by first | omega | (simp (disch := decide) only [ot_rd, ot_rs, ot_rf, ot_ucd, ot_ucs]; omega))) (k_60 _ _) ⟨_, rfl, rfl⟩ rfl rfl (Nat.le_of_ble_eq_true rfl) (by decide) (by decide) (by decide) dX10_dark_8 (fun z8 L8 μ8 hp => ?_)
  obtain ⟨rfl, e8, hz8⟩ := hp
  replace e8 := e8.symm
  subst e8
  try simp (disch := decide) only [ot_rd, ot_rs, ot_rf, ot_ucd, ot_ucs] at hz8
  refine tt_if_ne X 16 (by first | omega | (simp (disch := decide) only [ot_rd, ot_rs, ot_rf, ot_ucd, ot_ucs]; omega)) dX10_dark_11 (by decide) (fun b11 => ?_) (fun b11 => ?_)
  · refine tt_aload_n X rfl dX10_dark_16 ?_
    refine tt_vv X rfl mX10_264 (q_findsDark l g ln ext _ hG hW) (k_60 _ _) ⟨_, rfl, rfl⟩ rfl rfl (Nat.le_of_ble_eq_true rfl) (by decide) (by decide) (by decide) dX10_dark_17 (fun L17 μ17 hp => ?_)
    obtain ⟨rfl, f, rfl⟩ := hp
    refine tt_aload_n X rfl dX10_dark_20 ?_
    refine tt_getr X fX10_83 (k_60 _ _) (by decide) ⟨nofun, nofun⟩ rfl dX10_dark_21 ?_
    refine tt_bipush X (by decide) dX10_dark_24 ?_
    refine tt_iload_n X rfl dX10_dark_26 ?_
    refine tt_imul X dX10_dark_27 ?_
    refine tt_iload_n X rfl dX10_dark_28 ?_
    refine tt_iadd X dX10_dark_29 ?_
    refine tt_iaload X (k_83 _ _) (by first | omega | (simp (disch := decide) only [ot_rd, ot_rs, ot_rf, ot_ucd, ot_ucs]; omega)) dX10_dark_30 ?_
    try simp (disch := decide) only [ot_rd, ot_rs, ot_rf, ot_ucd, ot_ucs]
    refine tt_iret X ⟨hr.1, hr.2.1⟩ (by decide) (by decide) dX10_dark_31 ?_
    first | exact ⟨rfl, by rw [if_neg (by omega)], μ 82, μ 83, by rw [ot_uc_id (k := 83) (by simp (disch := decide) only [ot_ucd]), ot_uc_self]⟩ | (refine ⟨rfl, ?_, f, _, rfl⟩; rw [if_pos (by omega), wr_in (by omega)])
  · refine tt_iconst X dX10_dark_14 ?_
    refine tt_iret X ⟨hr.1, hr.2.1⟩ (by decide) (by decide) dX10_dark_15 ?_
    first | exact ⟨rfl, by rw [if_neg (by omega)], μ 82, μ 83, by rw [ot_uc_id (k := 83) (by simp (disch := decide) only [ot_ucd]), ot_uc_self]⟩ | (refine ⟨rfl, ?_, f, _, rfl⟩; rw [if_pos (by omega), wr_in (by omega)])
set_option maxRecDepth 100000 in
set_option maxHeartbeats 1000000 in
theorem q_samples (l : Launch) (g : ot_G) (ln : Nat) (ext : ot_L) (μ : ot_M) (h0 : μ 60 0 = 0) (a b x y : Int) (ha : -2147483648 ≤ a ∧ a ≤ 2147483647) (hb : -2147483648 ≤ b ∧ b ≤ 2147483647) (hx : -2147483648 ≤ x ∧ x ≤ 2147483647) (hy : -2147483648 ≤ y ∧ y ≤ 2147483647)(hG : gPin (μ 60 1) (μ 60 2) (μ 61) (μ 62))  : ot_C l g yX10_samples cX10_samples 5 (some .int) 3 0 0 [.inr 60, .inl a, .inl b, .inl x, .inl y] (LL ln ext) μ (ot_pi (fun r L2 μ2 => L2 = LL ln ext ∧ r = (if (0 ≤ a ∧ a < μ 60 2 ∧ 0 ≤ b ∧ b < μ 60 2 ∧ a ≠ b) ∧ (0 ≤ x ∧ x < μ 60 1 ∧ 0 ≤ y ∧ y < μ 60 1) then smp (μ 60 1) (μ 61) (μ 62) a b (8 * y + x) else -1) ∧ ∃ f, μ2 = ot_uc μ 82 f)) := by
  refine ot_enter (by decide) (Nat.le_of_ble_eq_true rfl) ?_
  intro p e s m args below meth c X hr
  have hS := hG.1
  have hNn := hG.2.1
  refine tt_aload_n X rfl dX10_samples_0 ?_
  refine tt_iconst X dX10_samples_1 ?_
  refine tt_puti X fX10_98 kc_10 (k_60 _ _) (by decide) (fun q hq => by cases hq; rfl) rfl dX10_samples_2 ?_
  refine tt_mem (ot_nop h0) ?_
  refine tt_aload_n X rfl dX10_samples_5 ?_
  refine tt_iload_n X rfl dX10_samples_6 ?_
  refine tt_vi X rfl mX10_252 (q_isPin l g ln ext _ _ (by first | omega | (simp (disch := decide) only [ot_rd, ot_rs, ot_rf, ot_ucd, ot_ucs]; omega)) (by first | omega | (simp (disch := decide) only [ot_rd, ot_rs, ot_rf, ot_ucd, ot_ucs]; omega))) (k_60 _ _) ⟨_, rfl, rfl⟩ rfl rfl (Nat.le_of_ble_eq_true rfl) (by decide) (by decide) (by decide) dX10_samples_7 (fun z7 L7 μ7 hp => ?_)
  obtain ⟨rfl, e7, hz7⟩ := hp
  replace e7 := e7.symm
  subst e7
  try simp (disch := decide) only [ot_rd, ot_rs, ot_rf, ot_ucd, ot_ucs] at hz7
  refine tt_if_eq X 36 (by first | omega | (simp (disch := decide) only [ot_rd, ot_rs, ot_rf, ot_ucd, ot_ucs]; omega)) dX10_samples_10 (by decide) (fun b10 => ?_) (fun b10 => ?_)
  · refine tt_iconst X dX10_samples_36 ?_
    refine tt_iret X ⟨hr.1, hr.2.1⟩ (by decide) (by decide) dX10_samples_37 ?_
    first | exact ⟨rfl, by rw [if_neg (by omega)], μ 82, ot_uc_self.symm⟩ | (refine ⟨rfl, ?_, _, rfl⟩; rw [if_pos (by omega), wr_in (by omega)])
  · refine tt_aload_n X rfl dX10_samples_13 ?_
    refine tt_iload_n X rfl dX10_samples_14 ?_
    refine tt_vi X rfl mX10_252 (q_isPin l g ln ext _ _ (by first | omega | (simp (disch := decide) only [ot_rd, ot_rs, ot_rf, ot_ucd, ot_ucs]; omega)) (by first | omega | (simp (disch := decide) only [ot_rd, ot_rs, ot_rf, ot_ucd, ot_ucs]; omega))) (k_60 _ _) ⟨_, rfl, rfl⟩ rfl rfl (Nat.le_of_ble_eq_true rfl) (by decide) (by decide) (by decide) dX10_samples_15 (fun z15 L15 μ15 hp => ?_)
    obtain ⟨rfl, e15, hz15⟩ := hp
    replace e15 := e15.symm
    subst e15
    try simp (disch := decide) only [ot_rd, ot_rs, ot_rf, ot_ucd, ot_ucs] at hz15
    refine tt_if_eq X 36 (by first | omega | (simp (disch := decide) only [ot_rd, ot_rs, ot_rf, ot_ucd, ot_ucs]; omega)) dX10_samples_18 (by decide) (fun b18 => ?_) (fun b18 => ?_)
    · refine tt_iconst X dX10_samples_36 ?_
      refine tt_iret X ⟨hr.1, hr.2.1⟩ (by decide) (by decide) dX10_samples_37 ?_
      first | exact ⟨rfl, by rw [if_neg (by omega)], μ 82, ot_uc_self.symm⟩ | (refine ⟨rfl, ?_, _, rfl⟩; rw [if_pos (by omega), wr_in (by omega)])
    · refine tt_iload_n X rfl dX10_samples_21 ?_
      refine tt_iload_n X rfl dX10_samples_22 ?_
      refine tt_icmp_eq X 36 (by first | omega | (simp (disch := decide) only [ot_rd, ot_rs, ot_rf, ot_ucd, ot_ucs]; omega)) dX10_samples_23 (by decide) (fun b23 => ?_) (fun b23 => ?_)
      · refine tt_iconst X dX10_samples_36 ?_
        refine tt_iret X ⟨hr.1, hr.2.1⟩ (by decide) (by decide) dX10_samples_37 ?_
        first | exact ⟨rfl, by rw [if_neg (by omega)], μ 82, ot_uc_self.symm⟩ | (refine ⟨rfl, ?_, _, rfl⟩; rw [if_pos (by omega), wr_in (by omega)])
      · refine tt_aload_n X rfl dX10_samples_26 ?_
        refine tt_iload_n X rfl dX10_samples_27 ?_
        refine tt_iload X rfl dX10_samples_28 ?_
        refine tt_vi X rfl mX10_121 (q_isSquare l g ln ext _ _ _ (by first | omega | (simp (disch := decide) only [ot_rd, ot_rs, ot_rf, ot_ucd, ot_ucs]; omega)) (by first | omega | (simp (disch := decide) only [ot_rd, ot_rs, ot_rf, ot_ucd, ot_ucs]; omega)) (by first | omega | (simp (disch := decide) only [ot_rd, ot_rs, ot_rf, ot_ucd, ot_ucs]; omega))) (k_60 _ _) ⟨_, rfl, rfl⟩ rfl rfl (Nat.le_of_ble_eq_true rfl) (by decide) (by decide) (by decide) dX10_samples_30 (fun z30 L30 μ30 hp => ?_)
        obtain ⟨rfl, e30, hz30⟩ := hp
        replace e30 := e30.symm
        subst e30
        try simp (disch := decide) only [ot_rd, ot_rs, ot_rf, ot_ucd, ot_ucs] at hz30
        refine tt_if_ne X 38 (by first | omega | (simp (disch := decide) only [ot_rd, ot_rs, ot_rf, ot_ucd, ot_ucs]; omega)) dX10_samples_33 (by decide) (fun b33 => ?_) (fun b33 => ?_)
        · refine tt_aload_n X rfl dX10_samples_38 ?_
          refine tt_iload_n X rfl dX10_samples_39 ?_
          refine tt_iload_n X rfl dX10_samples_40 ?_
          refine tt_vv X rfl mX10_236 (q_findsSamples l g ln ext _ _ _ hG (by omega) (by omega) (by omega)) (k_60 _ _) ⟨_, rfl, rfl⟩ rfl rfl (Nat.le_of_ble_eq_true rfl) (by decide) (by decide) (by decide) dX10_samples_41 (fun L41 μ41 hp => ?_)
          obtain ⟨rfl, rfl⟩ := hp
          refine tt_aload_n X rfl dX10_samples_44 ?_
          refine tt_getr X fX10_80 (k_60 _ _) (by decide) ⟨nofun, nofun⟩ rfl dX10_samples_45 ?_
          refine tt_bipush X (by decide) dX10_samples_48 ?_
          refine tt_iload X rfl dX10_samples_50 ?_
          refine tt_imul X dX10_samples_52 ?_
          refine tt_iload_n X rfl dX10_samples_53 ?_
          refine tt_iadd X dX10_samples_54 ?_
          refine tt_iaload X (k_82 _ _) (by first | omega | (simp (disch := decide) only [ot_rd, ot_rs, ot_rf, ot_ucd, ot_ucs]; omega)) dX10_samples_55 ?_
          try simp (disch := decide) only [ot_rd, ot_rs, ot_rf, ot_ucd, ot_ucs]
          refine tt_iret X ⟨hr.1, hr.2.1⟩ (by decide) (by decide) dX10_samples_56 ?_
          first | exact ⟨rfl, by rw [if_neg (by omega)], μ 82, ot_uc_self.symm⟩ | (refine ⟨rfl, ?_, _, rfl⟩; rw [if_pos (by omega), wr_in (by omega)])
        · refine tt_iconst X dX10_samples_36 ?_
          refine tt_iret X ⟨hr.1, hr.2.1⟩ (by decide) (by decide) dX10_samples_37 ?_
          first | exact ⟨rfl, by rw [if_neg (by omega)], μ 82, ot_uc_self.symm⟩ | (refine ⟨rfl, ?_, _, rfl⟩; rw [if_pos (by omega), wr_in (by omega)])
theorem farM_congr {S p : Int} {w want d d2 : Int → Int} (h : ∀ k, 0 ≤ k → k < 64 → d k = d2 k) : farM S w want d p = farM S w want d2 p :=
  sumN_congr (fun k k1 k2 => by rw [h k k1 (by omega)])
theorem gFar_congr {want d d2 : Int → Int} {p : Int} (h : ∀ k, 0 ≤ k → k < 64 → d k = d2 k) (hf : gFar want d p) : gFar want d2 p := fun k k1 k2 => by rw [← h k k1 k2]; exact hf k k1 k2
set_option maxRecDepth 100000 in
set_option maxHeartbeats 1000000 in
theorem q_far (l : Launch) (g : ot_G) (ln : Nat) (ext : ot_L) (μ : ot_M) (h0 : μ 60 0 = 0) (q : Int) (hq : -2147483648 ≤ q ∧ q ≤ 2147483647)(hG : gPin (μ 60 1) (μ 60 2) (μ 61) (μ 62)) (hW : gWnd (μ 60 2) (μ 64) (μ 65)) (hF : ∀ q, 0 ≤ q → q < 4 → gFar (μ 66) (dk (μ 60 1) (μ 61) (μ 62) (μ 64) (μ 65) (μ 63)) q)  : ot_C l g yX10_far cX10_far 2 (some .int) 5 0 0 [.inr 60, .inl q] (LL ln ext) μ (ot_pi (fun r L2 μ2 => L2 = LL ln ext ∧ r = (if 0 ≤ q ∧ q < 4 then farM (μ 60 1) (μ 67) (μ 66) (dk (μ 60 1) (μ 61) (μ 62) (μ 64) (μ 65) (μ 63)) q else -1) ∧ ∃ f D, μ2 = ot_uc (ot_uc μ 82 f) 83 D)) := by
  refine ot_enter (by decide) (Nat.le_of_ble_eq_true rfl) ?_
  intro p e s m args below meth c X hr
  have hS := hG.1
  refine tt_aload_n X rfl dX10_far_0 ?_
  refine tt_iconst X dX10_far_1 ?_
  refine tt_puti X fX10_98 kc_10 (k_60 _ _) (by decide) (fun q hq => by cases hq; rfl) rfl dX10_far_2 ?_
  refine tt_mem (ot_nop h0) ?_
  refine tt_aload_n X rfl dX10_far_5 ?_
  refine tt_iload_n X rfl dX10_far_6 ?_
  refine tt_vi X rfl mX10_117 (q_isPicture l g ln ext _ _ (by first | omega | (simp (disch := decide) only [ot_rd, ot_rs, ot_rf, ot_ucd, ot_ucs]; omega))) (k_60 _ _) ⟨_, rfl, rfl⟩ rfl rfl (Nat.le_of_ble_eq_true rfl) (by decide) (by decide) (by decide) dX10_far_7 (fun z7 L7 μ7 hp => ?_)
  obtain ⟨rfl, e7, hz7⟩ := hp
  replace e7 := e7.symm
  subst e7
  try simp (disch := decide) only [ot_rd, ot_rs, ot_rf, ot_ucd, ot_ucs] at hz7
  refine tt_if_ne X 15 (by first | omega | (simp (disch := decide) only [ot_rd, ot_rs, ot_rf, ot_ucd, ot_ucs]; omega)) dX10_far_10 (by decide) (fun b10 => ?_) (fun b10 => ?_)
  · refine tt_aload_n X rfl dX10_far_15 ?_
    refine tt_vv X rfl mX10_264 (q_findsDark l g ln ext _ hG hW) (k_60 _ _) ⟨_, rfl, rfl⟩ rfl rfl (Nat.le_of_ble_eq_true rfl) (by decide) (by decide) (by decide) dX10_far_16 (fun L16 μ16 hp => ?_)
    obtain ⟨rfl, f, rfl⟩ := hp
    refine tt_aload_n X rfl dX10_far_19 ?_
    refine tt_iload_n X rfl dX10_far_20 ?_
    refine tt_vi X rfl mX10_267 (q_farOf l g ln ext _ q (by omega) (by simp (disch := decide) only [ot_ucd, ot_ucs, ot_rd, ot_rs, ot_rf]; omega) (by simp (disch := decide) only [ot_ucd, ot_ucs, ot_rd, ot_rs, ot_rf]; exact gFar_congr (fun k k1 k2 => (wr_in ⟨k1, k2⟩).symm) (hF q (by omega) (by omega)))) (k_60 _ _) ⟨_, rfl, rfl⟩ rfl rfl (Nat.le_of_ble_eq_true rfl) (by decide) (by decide) (by decide) dX10_far_21 (fun z21 L21 μ21 hp => ?_)
    obtain ⟨rfl, e21, hz21⟩ := hp
    replace e21 := e21.symm
    subst e21
    simp (disch := decide) only [ot_ucd, ot_ucs, ot_rd, ot_rs, ot_rf] at hz21
    rw [farM_congr (d2 := dk (μ 60 1) (μ 61) (μ 62) (μ 64) (μ 65) (μ 63)) (fun k k1 k2 => wr_in ⟨k1, k2⟩)] at hz21
    try simp (disch := decide) only [ot_rd, ot_rs, ot_rf, ot_ucd, ot_ucs] at hz21
    refine tt_iret X ⟨hr.1, hr.2.1⟩ (by decide) (by decide) dX10_far_24 ?_
    first | exact ⟨rfl, by rw [if_neg (by omega)], μ 82, μ 83, by rw [ot_uc_id (k := 83) (by simp (disch := decide) only [ot_ucd]), ot_uc_self]⟩ | (refine ⟨rfl, ?_, f, _, rfl⟩; rw [if_pos (by omega)]; assumption)
  · refine tt_iconst X dX10_far_13 ?_
    refine tt_iret X ⟨hr.1, hr.2.1⟩ (by decide) (by decide) dX10_far_14 ?_
    first | exact ⟨rfl, by rw [if_neg (by omega)], μ 82, μ 83, by rw [ot_uc_id (k := 83) (by simp (disch := decide) only [ot_ucd]), ot_uc_self]⟩ | (refine ⟨rfl, ?_, f, _, rfl⟩; rw [if_pos (by omega)]; assumption)
set_option maxRecDepth 100000 in
set_option maxHeartbeats 1000000 in
theorem q_like (l : Launch) (g : ot_G) (ln : Nat) (ext : ot_L) (μ : ot_M) (h0 : μ 60 0 = 0) (hG : gPin (μ 60 1) (μ 60 2) (μ 61) (μ 62)) (hW : gWnd (μ 60 2) (μ 64) (μ 65)) (hF : ∀ q, 0 ≤ q → q < 4 → gFar (μ 66) (dk (μ 60 1) (μ 61) (μ 62) (μ 64) (μ 65) (μ 63)) q) (hB : ∀ q, 0 ≤ q → q < 4 → 0 ≤ farM (μ 60 1) (μ 67) (μ 66) (dk (μ 60 1) (μ 61) (μ 62) (μ 64) (μ 65) (μ 63)) q ∧ farM (μ 60 1) (μ 67) (μ 66) (dk (μ 60 1) (μ 61) (μ 62) (μ 64) (μ 65) (μ 63)) q ≤ 2000000000)  : ot_C l g yX10_like cX10_like 3 (some .int) 5 0 0 [.inr 60] (LL ln ext) μ (ot_pi (fun r L2 μ2 => L2 = LL ln ext ∧ r = likS (farM (μ 60 1) (μ 67) (μ 66) (dk (μ 60 1) (μ 61) (μ 62) (μ 64) (μ 65) (μ 63))) 3 ∧ ∃ f D, μ2 = ot_uc (ot_uc μ 82 f) 83 D)) := by
  refine ot_enter (by decide) (Nat.le_of_ble_eq_true rfl) ?_
  intro p e s m args below meth c X hr
  have hS := hG.1
  refine tt_aload_n X rfl dX10_like_0 ?_
  refine tt_iconst X dX10_like_1 ?_
  refine tt_puti X fX10_98 kc_10 (k_60 _ _) (by decide) (fun q hq => by cases hq; rfl) rfl dX10_like_2 ?_
  refine tt_mem (ot_nop h0) ?_
  refine tt_aload_n X rfl dX10_like_5 ?_
  refine tt_vv X rfl mX10_264 (q_findsDark l g ln ext _ hG hW) (k_60 _ _) ⟨_, rfl, rfl⟩ rfl rfl (Nat.le_of_ble_eq_true rfl) (by decide) (by decide) (by decide) dX10_like_6 (fun L6 μ6 hp => ?_)
  obtain ⟨rfl, f, rfl⟩ := hp
  refine tt_iconst X dX10_like_9 ?_
  refine tt_istore_n X dX10_like_10 (by decide) ?_
  refine tt_iconst X dX10_like_11 ?_
  refine tt_istore_n X dX10_like_12 (by decide) ?_
  refine tt_loc [(0, _), (1, _), (2, _)] ⟨rfl, rfl, rfl, trivial⟩ ?_
  refine tt_loop (α := Int × Int) (fun ((q, b)) => (4 - q).toNat) (fun ((q, b)) => (1 ≤ q ∧ q ≤ 4) ∧ (0 ≤ b ∧ b < 4) ∧ b = likS (farM (μ 60 1) (μ 67) (μ 66) (dk (μ 60 1) (μ 61) (μ 62) (μ 64) (μ 65) (μ 63))) (q - 1).toNat) (fun ((q, b)) => ot_uc (ot_uc μ 82 f) 83 (wr 64 (μ 83) (dk (μ 60 1) (μ 61) (μ 62) (μ 64) (μ 65) (μ 63)))) (fun ((q, b)) => [(0, .inr 60), (1, .inl b), (2, .inl q)]) (1, 0) ⟨by show 1 ≤ (1 : Int) ∧ (1 : Int) ≤ 4; omega, by show 0 ≤ (0 : Int) ∧ (0 : Int) < 4; omega, rfl⟩ ?_
  intro a hI ih
  obtain ⟨q, b⟩ := a
  try dsimp only at hI ih ⊢
  replace hI : (1 ≤ q ∧ q ≤ 4) ∧ (0 ≤ b ∧ b < 4) ∧ b = likS (farM (μ 60 1) (μ 67) (μ 66) (dk (μ 60 1) (μ 61) (μ 62) (μ 64) (μ 65) (μ 63))) (q - 1).toNat := hI
  have hi := hI.1
  have hib := hI.2.1
  have hBb := hB b (by omega) (by omega)
  refine tt_iload_n X rfl dX10_like_13 ?_
  refine tt_iconst X dX10_like_14 ?_
  refine tt_icmp_ge X 39 (by first | omega | (simp (disch := decide) only [ot_rd, ot_rs, ot_rf, ot_ucd, ot_ucs]; omega)) dX10_like_15 (by decide) (fun b15 => ?_) (fun b15 => ?_)
  · refine tt_iload_n X rfl dX10_like_39 ?_
    refine tt_iret X ⟨hr.1, hr.2.1⟩ (by decide) (by decide) dX10_like_40 ?_
    refine ⟨rfl, ?_, f, _, rfl⟩
    rw [hI.2.2, show q = 4 by omega]
    rfl
  · have hBq := hB q (by omega) (by omega)
    refine tt_aload_n X rfl dX10_like_18 ?_
    refine tt_iload_n X rfl dX10_like_19 ?_
    refine tt_vi X rfl mX10_267 (q_farOf l g ln ext _ q (by omega) (by simp (disch := decide) only [ot_ucd, ot_ucs, ot_rd, ot_rs, ot_rf]; omega) (by simp (disch := decide) only [ot_ucd, ot_ucs, ot_rd, ot_rs, ot_rf]; exact gFar_congr (fun k k1 k2 => (wr_in ⟨k1, k2⟩).symm) (hF q (by omega) (by omega)))) (k_60 _ _) ⟨_, rfl, rfl⟩ rfl rfl (Nat.le_of_ble_eq_true rfl) (by decide) (by decide) (by decide) dX10_like_20 (fun z20 L20 μ20 hp => ?_)
    obtain ⟨rfl, e20, hz20⟩ := hp
    replace e20 := e20.symm
    subst e20
    simp (disch := decide) only [ot_ucd, ot_ucs, ot_rd, ot_rs, ot_rf] at hz20
    rw [farM_congr (d2 := dk (μ 60 1) (μ 61) (μ 62) (μ 64) (μ 65) (μ 63)) (fun k k1 k2 => wr_in ⟨k1, k2⟩)] at hz20
    try simp (disch := decide) only [ot_rd, ot_rs, ot_rf, ot_ucd, ot_ucs] at hz20
    refine tt_aload_n X rfl dX10_like_23 ?_
    refine tt_iload_n X rfl dX10_like_24 ?_
    refine tt_vi X rfl mX10_267 (q_farOf l g ln ext _ b (by omega) (by simp (disch := decide) only [ot_ucd, ot_ucs, ot_rd, ot_rs, ot_rf]; omega) (by simp (disch := decide) only [ot_ucd, ot_ucs, ot_rd, ot_rs, ot_rf]; exact gFar_congr (fun k k1 k2 => (wr_in ⟨k1, k2⟩).symm) (hF b (by omega) (by omega)))) (k_60 _ _) ⟨_, rfl, rfl⟩ rfl rfl (Nat.le_of_ble_eq_true rfl) (by decide) (by decide) (by decide) dX10_like_25 (fun z25 L25 μ25 hp => ?_)
    obtain ⟨rfl, e25, hz25⟩ := hp
    replace e25 := e25.symm
    subst e25
    simp (disch := decide) only [ot_ucd, ot_ucs, ot_rd, ot_rs, ot_rf] at hz25
    rw [farM_congr (d2 := dk (μ 60 1) (μ 61) (μ 62) (μ 64) (μ 65) (μ 63)) (fun k k1 k2 => wr_in ⟨k1, k2⟩)] at hz25
    try simp (disch := decide) only [ot_rd, ot_rs, ot_rf, ot_ucd, ot_ucs] at hz25
    refine tt_icmp_ge X 33 (by first | omega | (simp (disch := decide) only [ot_rd, ot_rs, ot_rf, ot_ucd, ot_ucs]; omega)) dX10_like_28 (by decide) (fun b28 => ?_) (fun b28 => ?_)
    · refine tt_iinc X dX10_like_33 rfl (by decide) ?_
      refine tt_goto X 13 dX10_like_36 (by decide) ?_
      refine tt_loc [(0, _), (1, _), (2, _)] ⟨rfl, rfl, rfl, trivial⟩ ?_
      have hl : likS (farM (μ 60 1) (μ 67) (μ 66) (dk (μ 60 1) (μ 61) (μ 62) (μ 64) (μ 65) (μ 63))) (q + 1 - 1).toNat = if farM (μ 60 1) (μ 67) (μ 66) (dk (μ 60 1) (μ 61) (μ 62) (μ 64) (μ 65) (μ 63)) q < farM (μ 60 1) (μ 67) (μ 66) (dk (μ 60 1) (μ 61) (μ 62) (μ 64) (μ 65) (μ 63)) b then q else b := by
        rw [show (q + 1 - 1).toNat = (q - 1).toNat + 1 by omega]
        show (if farM (μ 60 1) (μ 67) (μ 66) (dk (μ 60 1) (μ 61) (μ 62) (μ 64) (μ 65) (μ 63)) (((q - 1).toNat : Int) + 1) < farM (μ 60 1) (μ 67) (μ 66) (dk (μ 60 1) (μ 61) (μ 62) (μ 64) (μ 65) (μ 63)) (likS (farM (μ 60 1) (μ 67) (μ 66) (dk (μ 60 1) (μ 61) (μ 62) (μ 64) (μ 65) (μ 63))) (q - 1).toNat) then (((q - 1).toNat : Int) + 1) else likS (farM (μ 60 1) (μ 67) (μ 66) (dk (μ 60 1) (μ 61) (μ 62) (μ 64) (μ 65) (μ 63))) (q - 1).toNat) = _
        rw [← hI.2.2, show (((q - 1).toNat : Int) + 1) = q by omega]
      first
        | exact ih (q + 1, q) ⟨by show 1 ≤ q + 1 ∧ q + 1 ≤ 4; omega, by show 0 ≤ q ∧ q < 4; omega, by show q = _; rw [hl, if_pos (by omega)]⟩ (by show (4 - (q + 1)).toNat < (4 - q).toNat; omega)
        | exact ih (q + 1, b) ⟨by show 1 ≤ q + 1 ∧ q + 1 ≤ 4; omega, hI.2.1, by show b = _; rw [hl, if_neg (by omega)]⟩ (by show (4 - (q + 1)).toNat < (4 - q).toNat; omega)
    · refine tt_iload_n X rfl dX10_like_31 ?_
      refine tt_istore_n X dX10_like_32 (by decide) ?_
      refine tt_iinc X dX10_like_33 rfl (by decide) ?_
      refine tt_goto X 13 dX10_like_36 (by decide) ?_
      refine tt_loc [(0, _), (1, _), (2, _)] ⟨rfl, rfl, rfl, trivial⟩ ?_
      have hl : likS (farM (μ 60 1) (μ 67) (μ 66) (dk (μ 60 1) (μ 61) (μ 62) (μ 64) (μ 65) (μ 63))) (q + 1 - 1).toNat = if farM (μ 60 1) (μ 67) (μ 66) (dk (μ 60 1) (μ 61) (μ 62) (μ 64) (μ 65) (μ 63)) q < farM (μ 60 1) (μ 67) (μ 66) (dk (μ 60 1) (μ 61) (μ 62) (μ 64) (μ 65) (μ 63)) b then q else b := by
        rw [show (q + 1 - 1).toNat = (q - 1).toNat + 1 by omega]
        show (if farM (μ 60 1) (μ 67) (μ 66) (dk (μ 60 1) (μ 61) (μ 62) (μ 64) (μ 65) (μ 63)) (((q - 1).toNat : Int) + 1) < farM (μ 60 1) (μ 67) (μ 66) (dk (μ 60 1) (μ 61) (μ 62) (μ 64) (μ 65) (μ 63)) (likS (farM (μ 60 1) (μ 67) (μ 66) (dk (μ 60 1) (μ 61) (μ 62) (μ 64) (μ 65) (μ 63))) (q - 1).toNat) then (((q - 1).toNat : Int) + 1) else likS (farM (μ 60 1) (μ 67) (μ 66) (dk (μ 60 1) (μ 61) (μ 62) (μ 64) (μ 65) (μ 63))) (q - 1).toNat) = _
        rw [← hI.2.2, show (((q - 1).toNat : Int) + 1) = q by omega]
      first
        | exact ih (q + 1, q) ⟨by show 1 ≤ q + 1 ∧ q + 1 ≤ 4; omega, by show 0 ≤ q ∧ q < 4; omega, by show q = _; rw [hl, if_pos (by omega)]⟩ (by show (4 - (q + 1)).toNat < (4 - q).toNat; omega)
        | exact ih (q + 1, b) ⟨by show 1 ≤ q + 1 ∧ q + 1 ≤ 4; omega, hI.2.1, by show b = _; rw [hl, if_neg (by omega)]⟩ (by show (4 - (q + 1)).toNat < (4 - q).toNat; omega)
set_option maxRecDepth 100000 in
set_option maxHeartbeats 1000000 in
theorem q_look (l : Launch) (g : ot_G) (ln : Nat) (ext : ot_L) (μ : ot_M) (h0 : μ 60 0 = 0) (w : Int) (hw : -2147483648 ≤ w ∧ w ≤ 2147483647)(hG : gPin (μ 60 1) (μ 60 2) (μ 61) (μ 62)) (hW : gWnd (μ 60 2) (μ 64) (μ 65))  : ot_C l g yX10_look cX10_look 2 (some .int) 3 0 0 [.inr 60, .inl w] (LL ln ext) μ (ot_pi (fun r L2 μ2 => L2 = LL ln ext ∧ μ2 = μ ∧ r = lookS w (μ 60 1) (μ 60 2) (μ 60 11) (μ 60 23) (μ 60 14) (lenA (μ 61) (μ 62) (μ 64) (μ 65)) (μ 63) (μ 61) (μ 62))) := by
  refine ot_enter (by decide) (Nat.le_of_ble_eq_true rfl) ?_
  intro p e s m args below meth c X hr
  have hNn := hG.2.1
  refine tt_aload_n X rfl dX10_look_0 ?_
  refine tt_iconst X dX10_look_1 ?_
  refine tt_puti X fX10_98 kc_10 (k_60 _ _) (by decide) (fun q hq => by cases hq; rfl) rfl dX10_look_2 ?_
  refine tt_mem (ot_nop h0) ?_
  refine tt_iload_n X rfl dX10_look_5 ?_
  refine tt_if_ne X 14 (by omega) dX10_look_6 (by decide) (fun b6 => ?_) (fun b6 => ?_)
  · refine tt_iload_n X rfl dX10_look_14 ?_
    refine tt_iconst X dX10_look_15 ?_
    refine tt_icmp_ne X 24 (by omega) dX10_look_16 (by decide) (fun b16 => ?_) (fun b16 => ?_)
    · refine tt_iload_n X rfl dX10_look_24 ?_
      refine tt_iconst X dX10_look_25 ?_
      refine tt_icmp_ne X 34 (by omega) dX10_look_26 (by decide) (fun b26 => ?_) (fun b26 => ?_)
      · refine tt_iload_n X rfl dX10_look_34 ?_
        refine tt_iconst X dX10_look_35 ?_
        refine tt_icmp_ne X 44 (by omega) dX10_look_36 (by decide) (fun b36 => ?_) (fun b36 => ?_)
        · refine tt_iload_n X rfl dX10_look_44 ?_
          refine tt_iconst X dX10_look_45 ?_
          refine tt_icmp_ne X 54 (by omega) dX10_look_46 (by decide) (fun b46 => ?_) (fun b46 => ?_)
          · refine tt_iload_n X rfl dX10_look_54 ?_
            refine tt_iconst X dX10_look_55 ?_
            refine tt_icmp_ne X 64 (by omega) dX10_look_56 (by decide) (fun b56 => ?_) (fun b56 => ?_)
            · refine tt_aload_n X rfl dX10_look_64 ?_
              refine tt_iload_n X rfl dX10_look_65 ?_
              refine tt_bipush X (by decide) dX10_look_66 ?_
              refine tt_bipush X (by decide) dX10_look_68 ?_
              refine tt_vi X rfl mX10_104 (q_isIn l g ln ext _ _ _ _ (by first | omega | (simp (disch := decide) only [ot_rd, ot_rs, ot_rf, ot_ucd, ot_ucs]; omega)) (by first | omega | (simp (disch := decide) only [ot_rd, ot_rs, ot_rf, ot_ucd, ot_ucs]; omega)) (by first | omega | (simp (disch := decide) only [ot_rd, ot_rs, ot_rf, ot_ucd, ot_ucs]; omega))) (k_60 _ _) ⟨_, rfl, rfl⟩ rfl rfl (Nat.le_of_ble_eq_true rfl) (by decide) (by decide) (by decide) dX10_look_70 (fun z70 L70 μ70 hp => ?_)
              obtain ⟨rfl, e70, hz70⟩ := hp
              replace e70 := e70.symm
              subst e70
              try simp (disch := decide) only [ot_rd, ot_rs, ot_rf, ot_ucd, ot_ucs] at hz70
              refine tt_if_eq X 86 (by first | omega | (simp (disch := decide) only [ot_rd, ot_rs, ot_rf, ot_ucd, ot_ucs]; omega)) dX10_look_73 (by decide) (fun b73 => ?_) (fun b73 => ?_)
              · refine tt_aload_n X rfl dX10_look_86 ?_
                refine tt_iload_n X rfl dX10_look_87 ?_
                refine tt_bipush X (by decide) dX10_look_88 ?_
                refine tt_bipush X (by decide) dX10_look_90 ?_
                refine tt_aload_n X rfl dX10_look_92 ?_
                refine tt_geti X fX10_101 (k_60 _ _) (by decide) (Or.inl rfl) dX10_look_93 ?_
                try simp (disch := decide) only [ot_rd, ot_rs, ot_rf, ot_ucd, ot_ucs]
                refine tt_iadd X dX10_look_96 ?_
                refine tt_vi X rfl mX10_104 (q_isIn l g ln ext _ _ _ _ (by first | omega | (simp (disch := decide) only [ot_rd, ot_rs, ot_rf, ot_ucd, ot_ucs]; omega)) (by first | omega | (simp (disch := decide) only [ot_rd, ot_rs, ot_rf, ot_ucd, ot_ucs]; omega)) (by first | omega | (simp (disch := decide) only [ot_rd, ot_rs, ot_rf, ot_ucd, ot_ucs]; omega))) (k_60 _ _) ⟨_, rfl, rfl⟩ rfl rfl (Nat.le_of_ble_eq_true rfl) (by decide) (by decide) (by decide) dX10_look_97 (fun z97 L97 μ97 hp => ?_)
                obtain ⟨rfl, e97, hz97⟩ := hp
                replace e97 := e97.symm
                subst e97
                try simp (disch := decide) only [ot_rd, ot_rs, ot_rf, ot_ucd, ot_ucs] at hz97
                refine tt_if_eq X 128 (by first | omega | (simp (disch := decide) only [ot_rd, ot_rs, ot_rf, ot_ucd, ot_ucs]; omega)) dX10_look_100 (by decide) (fun b100 => ?_) (fun b100 => ?_)
                · refine tt_iconst X dX10_look_128 ?_
                  refine tt_iret X ⟨hr.1, hr.2.1⟩ (by decide) (by decide) dX10_look_129 ?_
                  refine ⟨rfl, rfl, ?_⟩
                  unfold lookS
                  first
                    | (rw [if_pos (by omega)]; done)
                    | (rw [if_neg (by omega), if_pos (by omega)]; done)
                    | (rw [if_neg (by omega), if_neg (by omega), if_pos (by omega)]; done)
                    | (rw [if_neg (by omega), if_neg (by omega), if_neg (by omega), if_pos (by omega)]; done)
                    | (rw [if_neg (by omega), if_neg (by omega), if_neg (by omega), if_neg (by omega), if_pos (by omega)]; done)
                    | (rw [if_neg (by omega), if_neg (by omega), if_neg (by omega), if_neg (by omega), if_neg (by omega), if_pos (by omega)]; assumption)
                    | (rw [if_neg (by omega), if_neg (by omega), if_neg (by omega), if_neg (by omega), if_neg (by omega), if_neg (by omega), if_pos (by omega)]; done)
                    | (rw [if_neg (by omega), if_neg (by omega), if_neg (by omega), if_neg (by omega), if_neg (by omega), if_neg (by omega), if_neg (by omega), if_pos (by omega)]; omega)
                    | (rw [if_neg (by omega), if_neg (by omega), if_neg (by omega), if_neg (by omega), if_neg (by omega), if_neg (by omega), if_neg (by omega), if_neg (by omega)]; done)
                · refine tt_bipush X (by decide) dX10_look_103 ?_
                  refine tt_aload_n X rfl dX10_look_105 ?_
                  refine tt_getr X fX10_17 (k_60 _ _) (by decide) ⟨nofun, nofun⟩ rfl dX10_look_106 ?_
                  refine tt_iload_n X rfl dX10_look_109 ?_
                  refine tt_bipush X (by decide) dX10_look_110 ?_
                  refine tt_isub X dX10_look_112 ?_
                  refine tt_iaload X (k_62 _ _) (by first | omega | (simp (disch := decide) only [ot_rd, ot_rs, ot_rf, ot_ucd, ot_ucs]; omega)) dX10_look_113 ?_
                  try simp (disch := decide) only [ot_rd, ot_rs, ot_rf, ot_ucd, ot_ucs]
                  refine tt_imul X dX10_look_114 ?_
                  refine tt_aload_n X rfl dX10_look_115 ?_
                  refine tt_getr X fX10_13 (k_60 _ _) (by decide) ⟨nofun, nofun⟩ rfl dX10_look_116 ?_
                  refine tt_iload_n X rfl dX10_look_119 ?_
                  refine tt_bipush X (by decide) dX10_look_120 ?_
                  refine tt_isub X dX10_look_122 ?_
                  refine tt_iaload X (k_61 _ _) (by first | omega | (simp (disch := decide) only [ot_rd, ot_rs, ot_rf, ot_ucd, ot_ucs]; omega)) dX10_look_123 ?_
                  try simp (disch := decide) only [ot_rd, ot_rs, ot_rf, ot_ucd, ot_ucs]
                  refine tt_iadd X dX10_look_124 ?_
                  refine tt_goto X 129 dX10_look_125 (by decide) ?_
                  refine tt_iret X ⟨hr.1, hr.2.1⟩ (by decide) (by decide) dX10_look_129 ?_
                  refine ⟨rfl, rfl, ?_⟩
                  unfold lookS
                  first
                    | (rw [if_pos (by omega)]; done)
                    | (rw [if_neg (by omega), if_pos (by omega)]; done)
                    | (rw [if_neg (by omega), if_neg (by omega), if_pos (by omega)]; done)
                    | (rw [if_neg (by omega), if_neg (by omega), if_neg (by omega), if_pos (by omega)]; done)
                    | (rw [if_neg (by omega), if_neg (by omega), if_neg (by omega), if_neg (by omega), if_pos (by omega)]; done)
                    | (rw [if_neg (by omega), if_neg (by omega), if_neg (by omega), if_neg (by omega), if_neg (by omega), if_pos (by omega)]; assumption)
                    | (rw [if_neg (by omega), if_neg (by omega), if_neg (by omega), if_neg (by omega), if_neg (by omega), if_neg (by omega), if_pos (by omega)]; done)
                    | (rw [if_neg (by omega), if_neg (by omega), if_neg (by omega), if_neg (by omega), if_neg (by omega), if_neg (by omega), if_neg (by omega), if_pos (by omega)]; omega)
                    | (rw [if_neg (by omega), if_neg (by omega), if_neg (by omega), if_neg (by omega), if_neg (by omega), if_neg (by omega), if_neg (by omega), if_neg (by omega)]; done)
              · refine tt_aload_n X rfl dX10_look_76 ?_
                refine tt_getr X fX10_20 (k_60 _ _) (by decide) ⟨nofun, nofun⟩ rfl dX10_look_77 ?_
                refine tt_iload_n X rfl dX10_look_80 ?_
                refine tt_bipush X (by decide) dX10_look_81 ?_
                refine tt_isub X dX10_look_83 ?_
                refine tt_iaload X (k_63 _ _) (by first | omega | (simp (disch := decide) only [ot_rd, ot_rs, ot_rf, ot_ucd, ot_ucs]; omega)) dX10_look_84 ?_
                try simp (disch := decide) only [ot_rd, ot_rs, ot_rf, ot_ucd, ot_ucs]
                refine tt_iret X ⟨hr.1, hr.2.1⟩ (by decide) (by decide) dX10_look_85 ?_
                refine ⟨rfl, rfl, ?_⟩
                unfold lookS
                first
                  | (rw [if_pos (by omega)]; done)
                  | (rw [if_neg (by omega), if_pos (by omega)]; done)
                  | (rw [if_neg (by omega), if_neg (by omega), if_pos (by omega)]; done)
                  | (rw [if_neg (by omega), if_neg (by omega), if_neg (by omega), if_pos (by omega)]; done)
                  | (rw [if_neg (by omega), if_neg (by omega), if_neg (by omega), if_neg (by omega), if_pos (by omega)]; done)
                  | (rw [if_neg (by omega), if_neg (by omega), if_neg (by omega), if_neg (by omega), if_neg (by omega), if_pos (by omega)]; assumption)
                  | (rw [if_neg (by omega), if_neg (by omega), if_neg (by omega), if_neg (by omega), if_neg (by omega), if_neg (by omega), if_pos (by omega)]; done)
                  | (rw [if_neg (by omega), if_neg (by omega), if_neg (by omega), if_neg (by omega), if_neg (by omega), if_neg (by omega), if_neg (by omega), if_pos (by omega)]; omega)
                  | (rw [if_neg (by omega), if_neg (by omega), if_neg (by omega), if_neg (by omega), if_neg (by omega), if_neg (by omega), if_neg (by omega), if_neg (by omega)]; done)
            · refine tt_aload_n X rfl dX10_look_59 ?_
              refine tt_vi X rfl mX10_339 (q_lengthOfAll l g ln ext _ hG hW) (k_60 _ _) ⟨_, rfl, rfl⟩ rfl rfl (Nat.le_of_ble_eq_true rfl) (by decide) (by decide) (by decide) dX10_look_60 (fun z60 L60 μ60 hp => ?_)
              obtain ⟨rfl, e60, hz60⟩ := hp
              replace e60 := e60.symm
              subst e60
              try simp (disch := decide) only [ot_rd, ot_rs, ot_rf, ot_ucd, ot_ucs] at hz60
              refine tt_iret X ⟨hr.1, hr.2.1⟩ (by decide) (by decide) dX10_look_63 ?_
              refine ⟨rfl, rfl, ?_⟩
              unfold lookS
              first
                | (rw [if_pos (by omega)]; done)
                | (rw [if_neg (by omega), if_pos (by omega)]; done)
                | (rw [if_neg (by omega), if_neg (by omega), if_pos (by omega)]; done)
                | (rw [if_neg (by omega), if_neg (by omega), if_neg (by omega), if_pos (by omega)]; done)
                | (rw [if_neg (by omega), if_neg (by omega), if_neg (by omega), if_neg (by omega), if_pos (by omega)]; done)
                | (rw [if_neg (by omega), if_neg (by omega), if_neg (by omega), if_neg (by omega), if_neg (by omega), if_pos (by omega)]; assumption)
                | (rw [if_neg (by omega), if_neg (by omega), if_neg (by omega), if_neg (by omega), if_neg (by omega), if_neg (by omega), if_pos (by omega)]; done)
                | (rw [if_neg (by omega), if_neg (by omega), if_neg (by omega), if_neg (by omega), if_neg (by omega), if_neg (by omega), if_neg (by omega), if_pos (by omega)]; omega)
                | (rw [if_neg (by omega), if_neg (by omega), if_neg (by omega), if_neg (by omega), if_neg (by omega), if_neg (by omega), if_neg (by omega), if_neg (by omega)]; done)
          · refine tt_aload_n X rfl dX10_look_49 ?_
            refine tt_geti X fX10_111 (k_60 _ _) (by decide) (Or.inl rfl) dX10_look_50 ?_
            refine tt_iret X ⟨hr.1, hr.2.1⟩ (by decide) (by decide) dX10_look_53 ?_
            refine ⟨rfl, rfl, ?_⟩
            unfold lookS
            first
              | (rw [if_pos (by omega)]; done)
              | (rw [if_neg (by omega), if_pos (by omega)]; done)
              | (rw [if_neg (by omega), if_neg (by omega), if_pos (by omega)]; done)
              | (rw [if_neg (by omega), if_neg (by omega), if_neg (by omega), if_pos (by omega)]; done)
              | (rw [if_neg (by omega), if_neg (by omega), if_neg (by omega), if_neg (by omega), if_pos (by omega)]; done)
              | (rw [if_neg (by omega), if_neg (by omega), if_neg (by omega), if_neg (by omega), if_neg (by omega), if_pos (by omega)]; assumption)
              | (rw [if_neg (by omega), if_neg (by omega), if_neg (by omega), if_neg (by omega), if_neg (by omega), if_neg (by omega), if_pos (by omega)]; done)
              | (rw [if_neg (by omega), if_neg (by omega), if_neg (by omega), if_neg (by omega), if_neg (by omega), if_neg (by omega), if_neg (by omega), if_pos (by omega)]; omega)
              | (rw [if_neg (by omega), if_neg (by omega), if_neg (by omega), if_neg (by omega), if_neg (by omega), if_neg (by omega), if_neg (by omega), if_neg (by omega)]; done)
        · refine tt_aload_n X rfl dX10_look_39 ?_
          refine tt_geti X fX10_114 (k_60 _ _) (by decide) (Or.inl rfl) dX10_look_40 ?_
          refine tt_iret X ⟨hr.1, hr.2.1⟩ (by decide) (by decide) dX10_look_43 ?_
          refine ⟨rfl, rfl, ?_⟩
          unfold lookS
          first
            | (rw [if_pos (by omega)]; done)
            | (rw [if_neg (by omega), if_pos (by omega)]; done)
            | (rw [if_neg (by omega), if_neg (by omega), if_pos (by omega)]; done)
            | (rw [if_neg (by omega), if_neg (by omega), if_neg (by omega), if_pos (by omega)]; done)
            | (rw [if_neg (by omega), if_neg (by omega), if_neg (by omega), if_neg (by omega), if_pos (by omega)]; done)
            | (rw [if_neg (by omega), if_neg (by omega), if_neg (by omega), if_neg (by omega), if_neg (by omega), if_pos (by omega)]; assumption)
            | (rw [if_neg (by omega), if_neg (by omega), if_neg (by omega), if_neg (by omega), if_neg (by omega), if_neg (by omega), if_pos (by omega)]; done)
            | (rw [if_neg (by omega), if_neg (by omega), if_neg (by omega), if_neg (by omega), if_neg (by omega), if_neg (by omega), if_neg (by omega), if_pos (by omega)]; omega)
            | (rw [if_neg (by omega), if_neg (by omega), if_neg (by omega), if_neg (by omega), if_neg (by omega), if_neg (by omega), if_neg (by omega), if_neg (by omega)]; done)
      · refine tt_aload_n X rfl dX10_look_29 ?_
        refine tt_geti X fX10_108 (k_60 _ _) (by decide) (Or.inl rfl) dX10_look_30 ?_
        refine tt_iret X ⟨hr.1, hr.2.1⟩ (by decide) (by decide) dX10_look_33 ?_
        refine ⟨rfl, rfl, ?_⟩
        unfold lookS
        first
          | (rw [if_pos (by omega)]; done)
          | (rw [if_neg (by omega), if_pos (by omega)]; done)
          | (rw [if_neg (by omega), if_neg (by omega), if_pos (by omega)]; done)
          | (rw [if_neg (by omega), if_neg (by omega), if_neg (by omega), if_pos (by omega)]; done)
          | (rw [if_neg (by omega), if_neg (by omega), if_neg (by omega), if_neg (by omega), if_pos (by omega)]; done)
          | (rw [if_neg (by omega), if_neg (by omega), if_neg (by omega), if_neg (by omega), if_neg (by omega), if_pos (by omega)]; assumption)
          | (rw [if_neg (by omega), if_neg (by omega), if_neg (by omega), if_neg (by omega), if_neg (by omega), if_neg (by omega), if_pos (by omega)]; done)
          | (rw [if_neg (by omega), if_neg (by omega), if_neg (by omega), if_neg (by omega), if_neg (by omega), if_neg (by omega), if_neg (by omega), if_pos (by omega)]; omega)
          | (rw [if_neg (by omega), if_neg (by omega), if_neg (by omega), if_neg (by omega), if_neg (by omega), if_neg (by omega), if_neg (by omega), if_neg (by omega)]; done)
    · refine tt_aload_n X rfl dX10_look_19 ?_
      refine tt_geti X fX10_101 (k_60 _ _) (by decide) (Or.inl rfl) dX10_look_20 ?_
      refine tt_iret X ⟨hr.1, hr.2.1⟩ (by decide) (by decide) dX10_look_23 ?_
      refine ⟨rfl, rfl, ?_⟩
      unfold lookS
      first
        | (rw [if_pos (by omega)]; done)
        | (rw [if_neg (by omega), if_pos (by omega)]; done)
        | (rw [if_neg (by omega), if_neg (by omega), if_pos (by omega)]; done)
        | (rw [if_neg (by omega), if_neg (by omega), if_neg (by omega), if_pos (by omega)]; done)
        | (rw [if_neg (by omega), if_neg (by omega), if_neg (by omega), if_neg (by omega), if_pos (by omega)]; done)
        | (rw [if_neg (by omega), if_neg (by omega), if_neg (by omega), if_neg (by omega), if_neg (by omega), if_pos (by omega)]; assumption)
        | (rw [if_neg (by omega), if_neg (by omega), if_neg (by omega), if_neg (by omega), if_neg (by omega), if_neg (by omega), if_pos (by omega)]; done)
        | (rw [if_neg (by omega), if_neg (by omega), if_neg (by omega), if_neg (by omega), if_neg (by omega), if_neg (by omega), if_neg (by omega), if_pos (by omega)]; omega)
        | (rw [if_neg (by omega), if_neg (by omega), if_neg (by omega), if_neg (by omega), if_neg (by omega), if_neg (by omega), if_neg (by omega), if_neg (by omega)]; done)
  · refine tt_aload_n X rfl dX10_look_9 ?_
    refine tt_geti X fX10_7 (k_60 _ _) (by decide) (Or.inl rfl) dX10_look_10 ?_
    refine tt_iret X ⟨hr.1, hr.2.1⟩ (by decide) (by decide) dX10_look_13 ?_
    refine ⟨rfl, rfl, ?_⟩
    unfold lookS
    first
      | (rw [if_pos (by omega)]; done)
      | (rw [if_neg (by omega), if_pos (by omega)]; done)
      | (rw [if_neg (by omega), if_neg (by omega), if_pos (by omega)]; done)
      | (rw [if_neg (by omega), if_neg (by omega), if_neg (by omega), if_pos (by omega)]; done)
      | (rw [if_neg (by omega), if_neg (by omega), if_neg (by omega), if_neg (by omega), if_pos (by omega)]; done)
      | (rw [if_neg (by omega), if_neg (by omega), if_neg (by omega), if_neg (by omega), if_neg (by omega), if_pos (by omega)]; assumption)
      | (rw [if_neg (by omega), if_neg (by omega), if_neg (by omega), if_neg (by omega), if_neg (by omega), if_neg (by omega), if_pos (by omega)]; done)
      | (rw [if_neg (by omega), if_neg (by omega), if_neg (by omega), if_neg (by omega), if_neg (by omega), if_neg (by omega), if_neg (by omega), if_pos (by omega)]; omega)
      | (rw [if_neg (by omega), if_neg (by omega), if_neg (by omega), if_neg (by omega), if_neg (by omega), if_neg (by omega), if_neg (by omega), if_neg (by omega)]; done)
/-- the memory behind board(v) of the reference -/
def boardQ (μ : ot_M) (v : Int) : ot_M := ot_up (ot_up (ot_up (ot_uc (ot_uc (ot_uc (ot_uc (ot_uc (ot_up (ot_up μ 60 1 v) 60 2 0) 63 (wr 3 (μ 63) (fun t => t + 1))) 64 (wr 3 (μ 64) (fun _ => 0))) 66 (wr 256 (μ 66) (fun _ => 0))) 67 (wr 64 (μ 67) (fun _ => 0))) 68 (wr 64 (μ 68) (fun _ => 0))) 60 11 0) 60 14 0) 60 23 0
set_option maxRecDepth 100000 in
set_option maxHeartbeats 1000000 in
theorem q_board (l : Launch) (g : ot_G) (ln : Nat) (ext : ot_L) (μ : ot_M) (h0 : μ 60 0 = 0) (v : Int) (hv : -2147483648 ≤ v ∧ v ≤ 2147483647) : ot_C l g yX10_board cX10_board 3 (some .boolean) 1 0 0 [.inr 60, .inl v] (LL ln ext) μ (ot_pi (fun r L2 μ2 => L2 = LL ln ext ∧ (((2 ≤ v ∧ v ≤ 8) ∧ r = 1 ∧ μ2 = boardQ μ v) ∨ (¬ (2 ≤ v ∧ v ≤ 8) ∧ r = 0 ∧ μ2 = μ)))) := by
  refine ot_enter (by decide) (Nat.le_of_ble_eq_true rfl) ?_
  intro p e s m args below meth c X hr
  refine tt_aload_n X rfl dX10_board_0 ?_
  refine tt_iconst X dX10_board_1 ?_
  refine tt_puti X fX10_98 kc_10 (k_60 _ _) (by decide) (fun q hq => by cases hq; rfl) rfl dX10_board_2 ?_
  refine tt_mem (ot_nop h0) ?_
  refine tt_aload_n X rfl dX10_board_5 ?_
  refine tt_iload_n X rfl dX10_board_6 ?_
  refine tt_iconst X dX10_board_7 ?_
  refine tt_bipush X (by decide) dX10_board_8 ?_
  refine tt_vi X rfl mX10_104 (q_isIn l g ln ext _ _ _ _ (by first | omega | (simp (disch := decide) only [ot_rd, ot_rs, ot_rf, ot_ucd, ot_ucs]; omega)) (by first | omega | (simp (disch := decide) only [ot_rd, ot_rs, ot_rf, ot_ucd, ot_ucs]; omega)) (by first | omega | (simp (disch := decide) only [ot_rd, ot_rs, ot_rf, ot_ucd, ot_ucs]; omega))) (k_60 _ _) ⟨_, rfl, rfl⟩ rfl rfl (Nat.le_of_ble_eq_true rfl) (by decide) (by decide) (by decide) dX10_board_10 (fun z10 L10 μ10 hp => ?_)
  obtain ⟨rfl, e10, hz10⟩ := hp
  replace e10 := e10.symm
  subst e10
  try simp (disch := decide) only [ot_rd, ot_rs, ot_rf, ot_ucd, ot_ucs] at hz10
  refine tt_if_ne X 18 (by first | omega | (simp (disch := decide) only [ot_rd, ot_rs, ot_rf, ot_ucd, ot_ucs]; omega)) dX10_board_13 (by decide) (fun b13 => ?_) (fun b13 => ?_)
  · refine tt_aload_n X rfl dX10_board_18 ?_
    refine tt_iload_n X rfl dX10_board_19 ?_
    refine tt_puti X fX10_7 kc_10 (k_60 _ _) (by decide) (fun q hq => by cases hq; rfl) rfl dX10_board_20 ?_
    refine tt_aload_n X rfl dX10_board_23 ?_
    refine tt_iconst X dX10_board_24 ?_
    refine tt_puti X fX10_101 kc_10 (k_60 _ _) (by decide) (fun q hq => by cases hq; rfl) rfl dX10_board_25 ?_
    refine tt_iconst X dX10_board_28 ?_
    refine tt_istore_n X dX10_board_29 (by decide) ?_
    refine tt_mem (μ' := ot_uc (ot_uc (ot_up (ot_up μ 60 1 v) 60 2 0) 63 (wr 0 (μ 63) (fun t => t + 1))) 64 (wr 0 (μ 64) (fun _ => 0))) (by rw [wr_zero, wr_zero, ot_uc_id (k := 63) (by simp (disch := decide) only [ot_rc, ot_ucd]), ot_uc_id (k := 64) (by simp (disch := decide) only [ot_rc, ot_ucd])]) ?_
    refine tt_loc [(0, _), (2, _)] ⟨rfl, rfl, trivial⟩ ?_
    refine tt_loop (α := Int) (fun i => (3 - i).toNat) (fun i => 0 ≤ i ∧ i ≤ 3) (fun i => ot_uc (ot_uc (ot_up (ot_up μ 60 1 v) 60 2 0) 63 (wr i (μ 63) (fun t => t + 1))) 64 (wr i (μ 64) (fun _ => 0))) (fun i => [(0, .inr 60), (2, .inl i)]) 0 (by omega) ?_
    intro i hI ih
    try dsimp only at hI ih ⊢
    refine tt_iload_n X rfl dX10_board_30 ?_
    refine tt_iconst X dX10_board_31 ?_
    refine tt_icmp_ge X 57 (by first | omega | (simp (disch := decide) only [ot_rd, ot_rs, ot_rf, ot_ucd, ot_ucs]; omega)) dX10_board_32 (by decide) (fun b32 => ?_) (fun b32 => ?_)
    · refine tt_iconst X dX10_board_57 ?_
      refine tt_istore_n X dX10_board_58 (by decide) ?_
      refine tt_mem (μ' := ot_uc (ot_uc (ot_uc (ot_up (ot_up μ 60 1 v) 60 2 0) 63 (wr 3 (μ 63) (fun t => t + 1))) 64 (wr 3 (μ 64) (fun _ => 0))) 66 (wr 0 (μ 66) (fun _ => 0))) (by rw [show i = 3 by omega, wr_zero, ot_uc_id (k := 66) (by simp (disch := decide) only [ot_rc, ot_ucd])]) ?_
      refine tt_loc [(0, _), (2, _)] ⟨rfl, rfl, trivial⟩ ?_
      refine tt_loop (α := Int) (fun i => (256 - i).toNat) (fun i => 0 ≤ i ∧ i ≤ 256) (fun i => ot_uc (ot_uc (ot_uc (ot_up (ot_up μ 60 1 v) 60 2 0) 63 (wr 3 (μ 63) (fun t => t + 1))) 64 (wr 3 (μ 64) (fun _ => 0))) 66 (wr i (μ 66) (fun _ => 0))) (fun i => [(0, .inr 60), (2, .inl i)]) 0 (by omega) ?_
      intro i hI ih
      try dsimp only at hI ih ⊢
      refine tt_iload_n X rfl dX10_board_59 ?_
      refine tt_sipush X (by decide) dX10_board_60 ?_
      refine tt_icmp_ge X 79 (by first | omega | (simp (disch := decide) only [ot_rd, ot_rs, ot_rf, ot_ucd, ot_ucs]; omega)) dX10_board_63 (by decide) (fun b63 => ?_) (fun b63 => ?_)
      · refine tt_iconst X dX10_board_79 ?_
        refine tt_istore_n X dX10_board_80 (by decide) ?_
        refine tt_mem (μ' := ot_uc (ot_uc (ot_uc (ot_uc (ot_uc (ot_up (ot_up μ 60 1 v) 60 2 0) 63 (wr 3 (μ 63) (fun t => t + 1))) 64 (wr 3 (μ 64) (fun _ => 0))) 66 (wr 256 (μ 66) (fun _ => 0))) 67 (wr 0 (μ 67) (fun _ => 0))) 68 (wr 0 (μ 68) (fun _ => 0))) (by rw [show i = 256 by omega, wr_zero, wr_zero, ot_uc_id (k := 67) (by simp (disch := decide) only [ot_rc, ot_ucd]), ot_uc_id (k := 68) (by simp (disch := decide) only [ot_rc, ot_ucd])]) ?_
        refine tt_loc [(0, _), (2, _)] ⟨rfl, rfl, trivial⟩ ?_
        refine tt_loop (α := Int) (fun i => (64 - i).toNat) (fun i => 0 ≤ i ∧ i ≤ 64) (fun i => ot_uc (ot_uc (ot_uc (ot_uc (ot_uc (ot_up (ot_up μ 60 1 v) 60 2 0) 63 (wr 3 (μ 63) (fun t => t + 1))) 64 (wr 3 (μ 64) (fun _ => 0))) 66 (wr 256 (μ 66) (fun _ => 0))) 67 (wr i (μ 67) (fun _ => 0))) 68 (wr i (μ 68) (fun _ => 0))) (fun i => [(0, .inr 60), (2, .inl i)]) 0 (by omega) ?_
        intro i hI ih
        try dsimp only at hI ih ⊢
        refine tt_iload_n X rfl dX10_board_81 ?_
        refine tt_bipush X (by decide) dX10_board_82 ?_
        refine tt_icmp_ge X 107 (by first | omega | (simp (disch := decide) only [ot_rd, ot_rs, ot_rf, ot_ucd, ot_ucs]; omega)) dX10_board_84 (by decide) (fun b84 => ?_) (fun b84 => ?_)
        · refine tt_aload_n X rfl dX10_board_107 ?_
          refine tt_iconst X dX10_board_108 ?_
          refine tt_puti X fX10_108 kc_10 (k_60 _ _) (by decide) (fun q hq => by cases hq; rfl) rfl dX10_board_109 ?_
          refine tt_aload_n X rfl dX10_board_112 ?_
          refine tt_iconst X dX10_board_113 ?_
          refine tt_puti X fX10_111 kc_10 (k_60 _ _) (by decide) (fun q hq => by cases hq; rfl) rfl dX10_board_114 ?_
          refine tt_aload_n X rfl dX10_board_117 ?_
          refine tt_iconst X dX10_board_118 ?_
          refine tt_puti X fX10_114 kc_10 (k_60 _ _) (by decide) (fun q hq => by cases hq; rfl) rfl dX10_board_119 ?_
          refine tt_iconst X dX10_board_122 ?_
          refine tt_zret X ⟨hr.1, hr.2.1⟩ (by omega) (by decide) (by decide) dX10_board_123 ?_
          first | exact ⟨rfl, Or.inr ⟨by omega, rfl, rfl⟩⟩ | (refine ⟨rfl, Or.inl ⟨by omega, rfl, ?_⟩⟩; rw [show i = 64 by omega]; rfl)
        · refine tt_aload_n X rfl dX10_board_87 ?_
          refine tt_getr X fX10_32 (k_60 _ _) (by decide) ⟨nofun, nofun⟩ rfl dX10_board_88 ?_
          refine tt_iload_n X rfl dX10_board_91 ?_
          refine tt_iconst X dX10_board_92 ?_
          refine tt_iastore X (k_67 _ _) (by first | omega | (simp (disch := decide) only [ot_rd, ot_rs, ot_rf, ot_ucd, ot_ucs]; omega)) dX10_board_93 ?_
          refine tt_aload_n X rfl dX10_board_94 ?_
          refine tt_getr X fX10_35 (k_60 _ _) (by decide) ⟨nofun, nofun⟩ rfl dX10_board_95 ?_
          refine tt_iload_n X rfl dX10_board_98 ?_
          refine tt_iconst X dX10_board_99 ?_
          refine tt_iastore X (k_68 _ _) (by first | omega | (simp (disch := decide) only [ot_rd, ot_rs, ot_rf, ot_ucd, ot_ucs]; omega)) dX10_board_100 ?_
          refine tt_iinc X dX10_board_101 rfl (by decide) ?_
          refine tt_goto X 81 dX10_board_104 (by decide) ?_
          refine tt_loc [(0, _), (2, _)] ⟨rfl, rfl, trivial⟩ ?_
          refine tt_mem (μ' := ot_uc (ot_uc (ot_uc (ot_uc (ot_uc (ot_up (ot_up μ 60 1 v) 60 2 0) 63 (wr 3 (μ 63) (fun t => t + 1))) 64 (wr 3 (μ 64) (fun _ => 0))) 66 (wr 256 (μ 66) (fun _ => 0))) 67 (wr (i + 1) (μ 67) (fun _ => 0))) 68 (wr (i + 1) (μ 68) (fun _ => 0))) ?_ ?_
          · rw [show ot_up (ot_uc (ot_uc (ot_uc (ot_uc (ot_uc (ot_up (ot_up μ 60 1 v) 60 2 0) 63 (wr 3 (μ 63) (fun t => t + 1))) 64 (wr 3 (μ 64) (fun _ => 0))) 66 (wr 256 (μ 66) (fun _ => 0))) 67 (wr i (μ 67) (fun _ => 0))) 68 (wr i (μ 68) (fun _ => 0))) 67 i 0 = ot_uc (ot_uc (ot_uc (ot_uc (ot_uc (ot_up (ot_up μ 60 1 v) 60 2 0) 63 (wr 3 (μ 63) (fun t => t + 1))) 64 (wr 3 (μ 64) (fun _ => 0))) 66 (wr 256 (μ 66) (fun _ => 0))) 67 (wr (i + 1) (μ 67) (fun _ => 0))) 68 (wr i (μ 68) (fun _ => 0)) from by rw [ot_ucc (by decide), ot_uc_wr hI.1 rfl, ot_ucc (by decide)]]
            exact ot_uc_wr hI.1 rfl
          exact ih (i + 1) (by omega) (by omega)
      · refine tt_aload_n X rfl dX10_board_66 ?_
        refine tt_getr X fX10_29 (k_60 _ _) (by decide) ⟨nofun, nofun⟩ rfl dX10_board_67 ?_
        refine tt_iload_n X rfl dX10_board_70 ?_
        refine tt_iconst X dX10_board_71 ?_
        refine tt_iastore X (k_66 _ _) (by first | omega | (simp (disch := decide) only [ot_rd, ot_rs, ot_rf, ot_ucd, ot_ucs]; omega)) dX10_board_72 ?_
        refine tt_iinc X dX10_board_73 rfl (by decide) ?_
        refine tt_goto X 59 dX10_board_76 (by decide) ?_
        refine tt_loc [(0, _), (2, _)] ⟨rfl, rfl, trivial⟩ ?_
        refine tt_mem (μ' := ot_uc (ot_uc (ot_uc (ot_up (ot_up μ 60 1 v) 60 2 0) 63 (wr 3 (μ 63) (fun t => t + 1))) 64 (wr 3 (μ 64) (fun _ => 0))) 66 (wr (i + 1) (μ 66) (fun _ => 0))) (ot_uc_wr hI.1 rfl) ?_
        exact ih (i + 1) (by omega) (by omega)
    · refine tt_aload_n X rfl dX10_board_35 ?_
      refine tt_getr X fX10_20 (k_60 _ _) (by decide) ⟨nofun, nofun⟩ rfl dX10_board_36 ?_
      refine tt_iload_n X rfl dX10_board_39 ?_
      refine tt_iload_n X rfl dX10_board_40 ?_
      refine tt_iconst X dX10_board_41 ?_
      refine tt_iadd X dX10_board_42 ?_
      refine tt_iastore X (k_63 _ _) (by first | omega | (simp (disch := decide) only [ot_rd, ot_rs, ot_rf, ot_ucd, ot_ucs]; omega)) dX10_board_43 ?_
      refine tt_aload_n X rfl dX10_board_44 ?_
      refine tt_getr X fX10_23 (k_60 _ _) (by decide) ⟨nofun, nofun⟩ rfl dX10_board_45 ?_
      refine tt_iload_n X rfl dX10_board_48 ?_
      refine tt_iconst X dX10_board_49 ?_
      refine tt_iastore X (k_64 _ _) (by first | omega | (simp (disch := decide) only [ot_rd, ot_rs, ot_rf, ot_ucd, ot_ucs]; omega)) dX10_board_50 ?_
      refine tt_iinc X dX10_board_51 rfl (by decide) ?_
      refine tt_goto X 30 dX10_board_54 (by decide) ?_
      refine tt_loc [(0, _), (2, _)] ⟨rfl, rfl, trivial⟩ ?_
      refine tt_mem (μ' := ot_uc (ot_uc (ot_up (ot_up μ 60 1 v) 60 2 0) 63 (wr (i + 1) (μ 63) (fun t => t + 1))) 64 (wr (i + 1) (μ 64) (fun _ => 0))) ?_ ?_
      · rw [show ot_up (ot_uc (ot_uc (ot_up (ot_up μ 60 1 v) 60 2 0) 63 (wr i (μ 63) (fun t => t + 1))) 64 (wr i (μ 64) (fun _ => 0))) 63 i (i + 1) = ot_uc (ot_uc (ot_up (ot_up μ 60 1 v) 60 2 0) 63 (wr (i + 1) (μ 63) (fun t => t + 1))) 64 (wr i (μ 64) (fun _ => 0)) from by rw [ot_ucc (by decide), ot_uc_wr hI.1 rfl, ot_ucc (by decide)]]
        exact ot_uc_wr hI.1 rfl
      exact ih (i + 1) (by omega) (by omega)
  · refine tt_iconst X dX10_board_16 ?_
    refine tt_zret X ⟨hr.1, hr.2.1⟩ (by omega) (by decide) (by decide) dX10_board_17 ?_
    first | exact ⟨rfl, Or.inr ⟨by omega, rfl, rfl⟩⟩ | (refine ⟨rfl, Or.inl ⟨by omega, rfl, ?_⟩⟩; rw [show i = 64 by omega]; rfl)

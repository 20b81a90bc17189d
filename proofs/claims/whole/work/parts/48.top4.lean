def pb (t v : Int) (old : Int → Int) : Int → Int := fun i => if t ≤ i ∧ i < t + 4 then (v / 2 ^ (24 - 8 * (i - t).toNat)) % 256 else old i
def feedB (t a b c d e : Int) (old : Int → Int) : Int → Int := pb (t + 16) e (pb (t + 12) d (pb (t + 8) c (pb (t + 4) b (pb t a old))))
theorem ot_feed {μ : ot_M} {k k2 : Nat} {p1 p2 : Int → Int} {j a b : Int} (h : k ≠ k2) : ot_up (ot_uc (ot_up (ot_uc μ k p1) k2 j a) k p2) k2 j b = ot_up (ot_uc μ k p2) k2 j b := by
  funext q i
  by_cases h1 : q = k2
  · subst h1
    by_cases h2 : i = j <;> simp [ot_up, ot_uc, Ne.symm h, h2]
  · by_cases h2 : q = k
    · subst h2; simp [ot_up, ot_uc, h1]
    · simp [ot_up, ot_uc, h1, h2]
set_option maxRecDepth 100000 in
set_option maxHeartbeats 1000000 in
theorem c_feed (l : Launch) (g : ot_G) (ln : Nat) (ext : ot_L) (μ : ot_M) (a b c d e : Int) (ha : -2147483648 ≤ a ∧ a ≤ 2147483647) (hb : -2147483648 ≤ b ∧ b ≤ 2147483647) (hc : -2147483648 ≤ c ∧ c ≤ 2147483647) (hd : -2147483648 ≤ d ∧ d ≤ 2147483647) (he : -2147483648 ≤ e ∧ e ≤ 2147483647)(hT : 0 ≤ μ 0 10 ∧ μ 0 10 ≤ 400) : ot_C l g yX9_feed cX9_feed 6 (some .int) 1 0 0 [.inr 0, .inl a, .inl b, .inl c, .inl d, .inl e] (LL ln ext) μ (ot_pi (fun r L2 μ2 => L2 = LL ln ext ∧ ((μ 0 10 ≤ 380 ∧ r = μ 0 10 + 20 ∧ μ2 = ot_up (ot_uc μ 58 (feedB (μ 0 10) a b c d e (μ 58))) 0 10 (μ 0 10 + 20)) ∨ (380 < μ 0 10 ∧ r = -1 ∧ μ2 = μ)))) := by
  refine ot_enter (by decide) (Nat.le_of_ble_eq_true rfl) ?_
  intro p1 e1 s m args below meth c1 X hr
  refine tt_aload_n X rfl dX9_feed_0 ?_
  refine tt_geti X fX9_157 (k_0 _ _) (by decide) (Or.inl rfl) dX9_feed_1 ?_
  refine tt_bipush X (by decide) dX9_feed_4 ?_
  refine tt_iadd X dX9_feed_6 ?_
  refine tt_sipush X (by decide) dX9_feed_7 ?_
  refine tt_icmp_le X 15 (by omega) dX9_feed_10 (by decide) (fun b10 => ?_) (fun b10 => ?_)
  · refine tt_aload_n X rfl dX9_feed_15 ?_
    refine tt_iload_n X rfl dX9_feed_16 ?_
    refine tt_vv X rfl mX9_160 (c_putBytes l g ln ext _ _ (by omega) (by first | omega | (simp (disch := decide) only [ot_rd, ot_rs, ot_rf, ot_ucd, ot_ucs]; omega))) (k_0 _ _) ⟨_, rfl, rfl⟩ rfl rfl (Nat.le_of_ble_eq_true rfl) (by decide) (by decide) (by decide) dX9_feed_17 (fun L17 μ17 hp => ?_)
    obtain ⟨rfl, rfl⟩ := hp
    refine tt_mem (show _ = ot_up (ot_uc μ 58 (pb (μ 0 10) a (μ 58))) 0 10 (μ 0 10 + 4) from rfl) ?_
    refine tt_aload_n X rfl dX9_feed_20 ?_
    refine tt_iload_n X rfl dX9_feed_21 ?_
    refine tt_vv X rfl mX9_160 (c_putBytes l g ln ext _ _ (by omega) (by first | omega | (simp (disch := decide) only [ot_rd, ot_rs, ot_rf, ot_ucd, ot_ucs]; omega))) (k_0 _ _) ⟨_, rfl, rfl⟩ rfl rfl (Nat.le_of_ble_eq_true rfl) (by decide) (by decide) (by decide) dX9_feed_22 (fun L22 μ22 hp => ?_)
    obtain ⟨rfl, rfl⟩ := hp
    refine tt_mem (μ' := ot_up (ot_uc μ 58 (pb (μ 0 10 + 4) b (pb (μ 0 10) a (μ 58)))) 0 10 (μ 0 10 + 8)) ?_ ?_
    · simp (disch := decide) only [ot_ucd, ot_ucs, ot_rd, ot_rs, ot_rf]
      rw [ot_feed (by decide)]
      show ot_up (ot_uc μ 58 (pb (μ 0 10 + 4) b (pb (μ 0 10) a (μ 58)))) 0 10 (μ 0 10 + 4 + 4) = _
      rw [show μ 0 10 + 4 + 4 = μ 0 10 + 8 by omega]
    refine tt_aload_n X rfl dX9_feed_25 ?_
    refine tt_iload_n X rfl dX9_feed_26 ?_
    refine tt_vv X rfl mX9_160 (c_putBytes l g ln ext _ _ (by omega) (by first | omega | (simp (disch := decide) only [ot_rd, ot_rs, ot_rf, ot_ucd, ot_ucs]; omega))) (k_0 _ _) ⟨_, rfl, rfl⟩ rfl rfl (Nat.le_of_ble_eq_true rfl) (by decide) (by decide) (by decide) dX9_feed_27 (fun L27 μ27 hp => ?_)
    obtain ⟨rfl, rfl⟩ := hp
    refine tt_mem (μ' := ot_up (ot_uc μ 58 (pb (μ 0 10 + 8) c (pb (μ 0 10 + 4) b (pb (μ 0 10) a (μ 58))))) 0 10 (μ 0 10 + 12)) ?_ ?_
    · simp (disch := decide) only [ot_ucd, ot_ucs, ot_rd, ot_rs, ot_rf]
      rw [ot_feed (by decide)]
      show ot_up (ot_uc μ 58 (pb (μ 0 10 + 8) c (pb (μ 0 10 + 4) b (pb (μ 0 10) a (μ 58))))) 0 10 (μ 0 10 + 8 + 4) = _
      rw [show μ 0 10 + 8 + 4 = μ 0 10 + 12 by omega]
    refine tt_aload_n X rfl dX9_feed_30 ?_
    refine tt_iload X rfl dX9_feed_31 ?_
    refine tt_vv X rfl mX9_160 (c_putBytes l g ln ext _ _ (by omega) (by first | omega | (simp (disch := decide) only [ot_rd, ot_rs, ot_rf, ot_ucd, ot_ucs]; omega))) (k_0 _ _) ⟨_, rfl, rfl⟩ rfl rfl (Nat.le_of_ble_eq_true rfl) (by decide) (by decide) (by decide) dX9_feed_33 (fun L33 μ33 hp => ?_)
    obtain ⟨rfl, rfl⟩ := hp
    refine tt_mem (μ' := ot_up (ot_uc μ 58 (pb (μ 0 10 + 12) d (pb (μ 0 10 + 8) c (pb (μ 0 10 + 4) b (pb (μ 0 10) a (μ 58)))))) 0 10 (μ 0 10 + 16)) ?_ ?_
    · simp (disch := decide) only [ot_ucd, ot_ucs, ot_rd, ot_rs, ot_rf]
      rw [ot_feed (by decide)]
      show ot_up (ot_uc μ 58 (pb (μ 0 10 + 12) d (pb (μ 0 10 + 8) c (pb (μ 0 10 + 4) b (pb (μ 0 10) a (μ 58)))))) 0 10 (μ 0 10 + 12 + 4) = _
      rw [show μ 0 10 + 12 + 4 = μ 0 10 + 16 by omega]
    refine tt_aload_n X rfl dX9_feed_36 ?_
    refine tt_iload X rfl dX9_feed_37 ?_
    refine tt_vv X rfl mX9_160 (c_putBytes l g ln ext _ _ (by omega) (by first | omega | (simp (disch := decide) only [ot_rd, ot_rs, ot_rf, ot_ucd, ot_ucs]; omega))) (k_0 _ _) ⟨_, rfl, rfl⟩ rfl rfl (Nat.le_of_ble_eq_true rfl) (by decide) (by decide) (by decide) dX9_feed_39 (fun L39 μ39 hp => ?_)
    obtain ⟨rfl, rfl⟩ := hp
    refine tt_mem (μ' := ot_up (ot_uc μ 58 (pb (μ 0 10 + 16) e (pb (μ 0 10 + 12) d (pb (μ 0 10 + 8) c (pb (μ 0 10 + 4) b (pb (μ 0 10) a (μ 58))))))) 0 10 (μ 0 10 + 20)) ?_ ?_
    · simp (disch := decide) only [ot_ucd, ot_ucs, ot_rd, ot_rs, ot_rf]
      rw [ot_feed (by decide)]
      show ot_up (ot_uc μ 58 (pb (μ 0 10 + 16) e (pb (μ 0 10 + 12) d (pb (μ 0 10 + 8) c (pb (μ 0 10 + 4) b (pb (μ 0 10) a (μ 58))))))) 0 10 (μ 0 10 + 16 + 4) = _
      rw [show μ 0 10 + 16 + 4 = μ 0 10 + 20 by omega]
    refine tt_aload_n X rfl dX9_feed_42 ?_
    refine tt_geti X fX9_157 (k_0 _ _) (by decide) (Or.inl rfl) dX9_feed_43 ?_
    try simp (disch := decide) only [ot_rd, ot_rs, ot_rf, ot_ucd, ot_ucs]
    refine tt_iret X ⟨hr.1, hr.2.1⟩ (by decide) (by decide) dX9_feed_46 ?_
    first | exact ⟨rfl, Or.inr ⟨by omega, rfl, rfl⟩⟩ | exact ⟨rfl, Or.inl ⟨by omega, rfl, rfl⟩⟩
  · refine tt_iconst X dX9_feed_13 ?_
    refine tt_iret X ⟨hr.1, hr.2.1⟩ (by decide) (by decide) dX9_feed_14 ?_
    first | exact ⟨rfl, Or.inr ⟨by omega, rfl, rfl⟩⟩ | exact ⟨rfl, Or.inl ⟨by omega, rfl, rfl⟩⟩
set_option maxRecDepth 100000 in
set_option maxHeartbeats 1000000 in
theorem q_feed (l : Launch) (g : ot_G) (ln : Nat) (ext : ot_L) (μ : ot_M) (h0 : μ 60 0 = 0) (a b c d e : Int) (ha : -2147483648 ≤ a ∧ a ≤ 2147483647) (hb : -2147483648 ≤ b ∧ b ≤ 2147483647) (hc : -2147483648 ≤ c ∧ c ≤ 2147483647) (hd : -2147483648 ≤ d ∧ d ≤ 2147483647) (he : -2147483648 ≤ e ∧ e ≤ 2147483647)(hT : 0 ≤ μ 60 17 ∧ μ 60 17 ≤ 400) : ot_C l g yX10_feed cX10_feed 6 (some .int) 1 0 0 [.inr 60, .inl a, .inl b, .inl c, .inl d, .inl e] (LL ln ext) μ (ot_pi (fun r L2 μ2 => L2 = LL ln ext ∧ ((μ 60 17 ≤ 380 ∧ r = μ 60 17 + 20 ∧ μ2 = ot_up (ot_uc μ 72 (feedB (μ 60 17) a b c d e (μ 72))) 60 17 (μ 60 17 + 20)) ∨ (380 < μ 60 17 ∧ r = -1 ∧ μ2 = μ)))) := by
  refine ot_enter (by decide) (Nat.le_of_ble_eq_true rfl) ?_
  intro p1 e1 s m args below meth c1 X hr
  refine tt_aload_n X rfl dX10_feed_0 ?_
  refine tt_iconst X dX10_feed_1 ?_
  refine tt_puti X fX10_98 kc_10 (k_60 _ _) (by decide) (fun q hq => by cases hq; rfl) rfl dX10_feed_2 ?_
  refine tt_mem (ot_nop h0) ?_
  refine tt_aload_n X rfl dX10_feed_5 ?_
  refine tt_geti X fX10_128 (k_60 _ _) (by decide) (Or.inl rfl) dX10_feed_6 ?_
  refine tt_sipush X (by decide) dX10_feed_9 ?_
  refine tt_icmp_le X 17 (by omega) dX10_feed_12 (by decide) (fun b12 => ?_) (fun b12 => ?_)
  · refine tt_aload_n X rfl dX10_feed_17 ?_
    refine tt_iload_n X rfl dX10_feed_18 ?_
    refine tt_vv X rfl mX10_131 (q_types l g ln ext _ _ (by omega) (by first | omega | (simp (disch := decide) only [ot_rd, ot_rs, ot_rf, ot_ucd, ot_ucs]; omega))) (k_60 _ _) ⟨_, rfl, rfl⟩ rfl rfl (Nat.le_of_ble_eq_true rfl) (by decide) (by decide) (by decide) dX10_feed_19 (fun L19 μ19 hp => ?_)
    obtain ⟨rfl, rfl⟩ := hp
    refine tt_mem (show _ = ot_up (ot_uc μ 72 (pb (μ 60 17) a (μ 72))) 60 17 (μ 60 17 + 4) from rfl) ?_
    refine tt_aload_n X rfl dX10_feed_22 ?_
    refine tt_iload_n X rfl dX10_feed_23 ?_
    refine tt_vv X rfl mX10_131 (q_types l g ln ext _ _ (by omega) (by first | omega | (simp (disch := decide) only [ot_rd, ot_rs, ot_rf, ot_ucd, ot_ucs]; omega))) (k_60 _ _) ⟨_, rfl, rfl⟩ rfl rfl (Nat.le_of_ble_eq_true rfl) (by decide) (by decide) (by decide) dX10_feed_24 (fun L24 μ24 hp => ?_)
    obtain ⟨rfl, rfl⟩ := hp
    refine tt_mem (μ' := ot_up (ot_uc μ 72 (pb (μ 60 17 + 4) b (pb (μ 60 17) a (μ 72)))) 60 17 (μ 60 17 + 8)) ?_ ?_
    · simp (disch := decide) only [ot_ucd, ot_ucs, ot_rd, ot_rs, ot_rf]
      rw [ot_feed (by decide)]
      show ot_up (ot_uc μ 72 (pb (μ 60 17 + 4) b (pb (μ 60 17) a (μ 72)))) 60 17 (μ 60 17 + 4 + 4) = _
      rw [show μ 60 17 + 4 + 4 = μ 60 17 + 8 by omega]
    refine tt_aload_n X rfl dX10_feed_27 ?_
    refine tt_iload_n X rfl dX10_feed_28 ?_
    refine tt_vv X rfl mX10_131 (q_types l g ln ext _ _ (by omega) (by first | omega | (simp (disch := decide) only [ot_rd, ot_rs, ot_rf, ot_ucd, ot_ucs]; omega))) (k_60 _ _) ⟨_, rfl, rfl⟩ rfl rfl (Nat.le_of_ble_eq_true rfl) (by decide) (by decide) (by decide) dX10_feed_29 (fun L29 μ29 hp => ?_)
    obtain ⟨rfl, rfl⟩ := hp
    refine tt_mem (μ' := ot_up (ot_uc μ 72 (pb (μ 60 17 + 8) c (pb (μ 60 17 + 4) b (pb (μ 60 17) a (μ 72))))) 60 17 (μ 60 17 + 12)) ?_ ?_
    · simp (disch := decide) only [ot_ucd, ot_ucs, ot_rd, ot_rs, ot_rf]
      rw [ot_feed (by decide)]
      show ot_up (ot_uc μ 72 (pb (μ 60 17 + 8) c (pb (μ 60 17 + 4) b (pb (μ 60 17) a (μ 72))))) 60 17 (μ 60 17 + 8 + 4) = _
      rw [show μ 60 17 + 8 + 4 = μ 60 17 + 12 by omega]
    refine tt_aload_n X rfl dX10_feed_32 ?_
    refine tt_iload X rfl dX10_feed_33 ?_
    refine tt_vv X rfl mX10_131 (q_types l g ln ext _ _ (by omega) (by first | omega | (simp (disch := decide) only [ot_rd, ot_rs, ot_rf, ot_ucd, ot_ucs]; omega))) (k_60 _ _) ⟨_, rfl, rfl⟩ rfl rfl (Nat.le_of_ble_eq_true rfl) (by decide) (by decide) (by decide) dX10_feed_35 (fun L35 μ35 hp => ?_)
    obtain ⟨rfl, rfl⟩ := hp
    refine tt_mem (μ' := ot_up (ot_uc μ 72 (pb (μ 60 17 + 12) d (pb (μ 60 17 + 8) c (pb (μ 60 17 + 4) b (pb (μ 60 17) a (μ 72)))))) 60 17 (μ 60 17 + 16)) ?_ ?_
    · simp (disch := decide) only [ot_ucd, ot_ucs, ot_rd, ot_rs, ot_rf]
      rw [ot_feed (by decide)]
      show ot_up (ot_uc μ 72 (pb (μ 60 17 + 12) d (pb (μ 60 17 + 8) c (pb (μ 60 17 + 4) b (pb (μ 60 17) a (μ 72)))))) 60 17 (μ 60 17 + 12 + 4) = _
      rw [show μ 60 17 + 12 + 4 = μ 60 17 + 16 by omega]
    refine tt_aload_n X rfl dX10_feed_38 ?_
    refine tt_iload X rfl dX10_feed_39 ?_
    refine tt_vv X rfl mX10_131 (q_types l g ln ext _ _ (by omega) (by first | omega | (simp (disch := decide) only [ot_rd, ot_rs, ot_rf, ot_ucd, ot_ucs]; omega))) (k_60 _ _) ⟨_, rfl, rfl⟩ rfl rfl (Nat.le_of_ble_eq_true rfl) (by decide) (by decide) (by decide) dX10_feed_41 (fun L41 μ41 hp => ?_)
    obtain ⟨rfl, rfl⟩ := hp
    refine tt_mem (μ' := ot_up (ot_uc μ 72 (pb (μ 60 17 + 16) e (pb (μ 60 17 + 12) d (pb (μ 60 17 + 8) c (pb (μ 60 17 + 4) b (pb (μ 60 17) a (μ 72))))))) 60 17 (μ 60 17 + 20)) ?_ ?_
    · simp (disch := decide) only [ot_ucd, ot_ucs, ot_rd, ot_rs, ot_rf]
      rw [ot_feed (by decide)]
      show ot_up (ot_uc μ 72 (pb (μ 60 17 + 16) e (pb (μ 60 17 + 12) d (pb (μ 60 17 + 8) c (pb (μ 60 17 + 4) b (pb (μ 60 17) a (μ 72))))))) 60 17 (μ 60 17 + 16 + 4) = _
      rw [show μ 60 17 + 16 + 4 = μ 60 17 + 20 by omega]
    refine tt_aload_n X rfl dX10_feed_44 ?_
    refine tt_geti X fX10_128 (k_60 _ _) (by decide) (Or.inl rfl) dX10_feed_45 ?_
    try simp (disch := decide) only [ot_rd, ot_rs, ot_rf, ot_ucd, ot_ucs]
    refine tt_iret X ⟨hr.1, hr.2.1⟩ (by decide) (by decide) dX10_feed_48 ?_
    first | exact ⟨rfl, Or.inr ⟨by omega, rfl, rfl⟩⟩ | exact ⟨rfl, Or.inl ⟨by omega, rfl, rfl⟩⟩
  · refine tt_iconst X dX10_feed_15 ?_
    refine tt_iret X ⟨hr.1, hr.2.1⟩ (by decide) (by decide) dX10_feed_16 ?_
    first | exact ⟨rfl, Or.inr ⟨by omega, rfl, rfl⟩⟩ | exact ⟨rfl, Or.inl ⟨by omega, rfl, rfl⟩⟩
set_option maxRecDepth 100000 in
set_option maxHeartbeats 1000000 in
theorem c_lengthOfAll (l : Launch) (g : ot_G) (ln : Nat) (ext : ot_L) (μ : ot_M) (hG : gPin (μ 1 11) (μ 1 12) (μ 2) (μ 3)) (hW : gWnd (μ 1 12) (μ 8) (μ 7))  : ot_C l g yX8_lengthOfAll cX8_lengthOfAll 5 (some .int) 2 0 0 [.inr 1] (LL ln ext) μ (ot_pi (fun r L2 μ2 => L2 = LL ln ext ∧ μ2 = μ ∧ r = lenA (μ 2) (μ 3) (μ 8) (μ 7))) := by
  refine ot_enter (by decide) (Nat.le_of_ble_eq_true rfl) ?_
  intro p e s m args below meth c X hr
  have hNn := hG.2.1
  refine tt_iconst X dX8_lengthOfAll_0 ?_
  refine tt_istore_n X dX8_lengthOfAll_1 (by decide) ?_
  refine tt_iconst X dX8_lengthOfAll_2 ?_
  refine tt_istore_n X dX8_lengthOfAll_3 (by decide) ?_
  refine tt_loc [(0, _), (1, _), (2, _)] ⟨rfl, rfl, rfl, trivial⟩ ?_
  refine tt_loop (α := Int × Int) (fun ((t, y)) => (3 - t).toNat) (fun ((t, y)) => (0 ≤ t ∧ t ≤ 3) ∧ y = sumN (fun t => sumN (fun i => lenP (μ 2 (μ 7 (120 * t + i))) (μ 3 (μ 7 (120 * t + i))) (μ 2 (μ 7 (120 * t + i + 1))) (μ 3 (μ 7 (120 * t + i + 1)))) (μ 8 t - 1).toNat) t.toNat) (fun ((t, y)) => μ) (fun ((t, y)) => [(0, .inr 1), (1, .inl y), (2, .inl t)]) (0, 0) ⟨by show 0 ≤ (0 : Int) ∧ (0 : Int) ≤ 3; omega, rfl⟩ ?_
  intro a hIt iht
  obtain ⟨t, y⟩ := a
  try dsimp only at hIt iht ⊢
  replace hIt : (0 ≤ t ∧ t ≤ 3) ∧ y = sumN (fun t => sumN (fun i => lenP (μ 2 (μ 7 (120 * t + i))) (μ 3 (μ 7 (120 * t + i))) (μ 2 (μ 7 (120 * t + i + 1))) (μ 3 (μ 7 (120 * t + i + 1)))) (μ 8 t - 1).toNat) t.toNat := hIt
  have ht := hIt.1
  refine tt_iload_n X rfl dX8_lengthOfAll_4 ?_
  refine tt_iconst X dX8_lengthOfAll_5 ?_
  refine tt_icmp_ge X 67 (by first | omega | (simp (disch := decide) only [ot_rd, ot_rs, ot_rf, ot_ucd, ot_ucs]; omega)) dX8_lengthOfAll_6 (by decide) (fun b6 => ?_) (fun b6 => ?_)
  · refine tt_iload_n X rfl dX8_lengthOfAll_67 ?_
    refine tt_iret X ⟨hr.1, hr.2.1⟩ (by decide) (by decide) dX8_lengthOfAll_68 ?_
    refine ⟨rfl, rfl, ?_⟩
    rw [hIt.2, show t = 3 by omega]
    rfl
  · refine tt_iload_n X rfl dX8_lengthOfAll_9 ?_
    refine tt_bipush X (by decide) dX8_lengthOfAll_10 ?_
    refine tt_imul X dX8_lengthOfAll_12 ?_
    refine tt_istore_n X dX8_lengthOfAll_13 (by decide) ?_
    refine tt_iconst X dX8_lengthOfAll_14 ?_
    refine tt_istore X dX8_lengthOfAll_15 (by decide) ?_
    have hWt := hW t (by omega) (by omega)
    refine tt_loc [(0, _), (1, _), (2, _), (3, _), (4, _)] ⟨rfl, rfl, rfl, rfl, rfl, trivial⟩ ?_
    refine tt_loop (α := Int × Int) (fun ((i, x)) => (μ 8 t - i).toNat) (fun ((i, x)) => (1 ≤ i ∧ (i ≤ μ 8 t ∨ (i = 1 ∧ μ 8 t = 0))) ∧ x = y + sumN (fun i => lenP (μ 2 (μ 7 (120 * t + i))) (μ 3 (μ 7 (120 * t + i))) (μ 2 (μ 7 (120 * t + i + 1))) (μ 3 (μ 7 (120 * t + i + 1)))) (i - 1).toNat) (fun ((i, x)) => μ) (fun ((i, x)) => [(0, .inr 1), (1, .inl x), (2, .inl t), (3, .inl (t * 120)), (4, .inl i)]) (1, y) ⟨by show 1 ≤ (1 : Int) ∧ ((1 : Int) ≤ μ 8 t ∨ ((1 : Int) = 1 ∧ μ 8 t = 0)); omega, (Int.add_zero y).symm⟩ ?_
    intro a hI ih
    obtain ⟨i, x⟩ := a
    try dsimp only at hI ih ⊢
    replace hI : (1 ≤ i ∧ (i ≤ μ 8 t ∨ (i = 1 ∧ μ 8 t = 0))) ∧ x = y + sumN (fun i => lenP (μ 2 (μ 7 (120 * t + i))) (μ 3 (μ 7 (120 * t + i))) (μ 2 (μ 7 (120 * t + i + 1))) (μ 3 (μ 7 (120 * t + i + 1)))) (i - 1).toNat := hI
    have hi := hI.1
    refine tt_iload X rfl dX8_lengthOfAll_17 ?_
    refine tt_aload_n X rfl dX8_lengthOfAll_19 ?_
    refine tt_getr X fX8_30 (k_1 _ _) (by decide) ⟨nofun, nofun⟩ rfl dX8_lengthOfAll_20 ?_
    refine tt_iload_n X rfl dX8_lengthOfAll_23 ?_
    refine tt_iaload X (k_8 _ _) (by first | omega | (simp (disch := decide) only [ot_rd, ot_rs, ot_rf, ot_ucd, ot_ucs]; omega)) dX8_lengthOfAll_24 ?_
    try simp (disch := decide) only [ot_rd, ot_rs, ot_rf, ot_ucd, ot_ucs]
    refine tt_icmp_ge X 61 (by first | omega | (simp (disch := decide) only [ot_rd, ot_rs, ot_rf, ot_ucd, ot_ucs]; omega)) dX8_lengthOfAll_25 (by decide) (fun b25 => ?_) (fun b25 => ?_)
    · refine tt_iinc X dX8_lengthOfAll_61 rfl (by decide) ?_
      refine tt_goto X 4 dX8_lengthOfAll_64 (by decide) ?_
      refine tt_loc [(0, _), (1, _), (2, _)] ⟨rfl, rfl, rfl, trivial⟩ ?_
      refine iht (t + 1, x) ⟨by show 0 ≤ t + 1 ∧ t + 1 ≤ 3; omega, ?_⟩ (by show (3 - (t + 1)).toNat < (3 - t).toNat; omega)
      show x = sumN _ (t + 1).toNat
      rw [sumN_toNat _ hIt.1.1, ← hIt.2, hI.2]
      rcases (show i - 1 = μ 8 t - 1 ∨ (μ 8 t = 0 ∧ i = 1) by omega) with q | q
      · rw [q]
      · rw [q.1, q.2]; rfl
    · have hw1 := hWt.2.1 (i - 1) (by omega) (by omega)
      have hw2 := hWt.2.1 i (by omega) (by omega)
      have hg1 := gPin_at hG hw1.1 hw1.2
      have hg2 := gPin_at hG hw2.1 hw2.2
      refine tt_iload_n X rfl dX8_lengthOfAll_28 ?_
      refine tt_aload_n X rfl dX8_lengthOfAll_29 ?_
      refine tt_aload_n X rfl dX8_lengthOfAll_30 ?_
      refine tt_getr X fX8_27 (k_1 _ _) (by decide) ⟨nofun, nofun⟩ rfl dX8_lengthOfAll_31 ?_
      refine tt_iload_n X rfl dX8_lengthOfAll_34 ?_
      refine tt_iload X rfl dX8_lengthOfAll_35 ?_
      refine tt_iadd X dX8_lengthOfAll_37 ?_
      refine tt_iconst X dX8_lengthOfAll_38 ?_
      refine tt_isub X dX8_lengthOfAll_39 ?_
      refine tt_iaload X (k_7 _ _) (by first | omega | (simp (disch := decide) only [ot_rd, ot_rs, ot_rf, ot_ucd, ot_ucs]; omega)) dX8_lengthOfAll_40 ?_
      try simp (disch := decide) only [ot_rd, ot_rs, ot_rf, ot_ucd, ot_ucs]
      refine tt_top (show _ = μ 7 (120 * t + (i - 1)) by rw [show t * 120 + i - 1 = 120 * t + (i - 1) by omega]) ?_
      refine tt_aload_n X rfl dX8_lengthOfAll_41 ?_
      refine tt_getr X fX8_27 (k_1 _ _) (by decide) ⟨nofun, nofun⟩ rfl dX8_lengthOfAll_42 ?_
      refine tt_iload_n X rfl dX8_lengthOfAll_45 ?_
      refine tt_iload X rfl dX8_lengthOfAll_46 ?_
      refine tt_iadd X dX8_lengthOfAll_48 ?_
      refine tt_iaload X (k_7 _ _) (by first | omega | (simp (disch := decide) only [ot_rd, ot_rs, ot_rf, ot_ucd, ot_ucs]; omega)) dX8_lengthOfAll_49 ?_
      try simp (disch := decide) only [ot_rd, ot_rs, ot_rf, ot_ucd, ot_ucs]
      refine tt_top (show _ = μ 7 (120 * t + i) by rw [show t * 120 + i = 120 * t + i by omega]) ?_
      refine tt_vi X rfl mX8_97 (c_lengthOf l g ln ext _ _ _ (by first | omega | (simp (disch := decide) only [ot_rd, ot_rs, ot_rf, ot_ucd, ot_ucs]; omega)) (by first | omega | (simp (disch := decide) only [ot_rd, ot_rs, ot_rf, ot_ucd, ot_ucs]; omega)) (by first | omega | (simp (disch := decide) only [ot_rd, ot_rs, ot_rf, ot_ucd, ot_ucs]; omega))) (k_1 _ _) ⟨_, rfl, rfl⟩ rfl rfl (Nat.le_of_ble_eq_true rfl) (by decide) (by decide) (by decide) dX8_lengthOfAll_50 (fun z50 L50 μ50 hp => ?_)
      obtain ⟨rfl, e50, hz50⟩ := hp
      replace e50 := e50.symm
      subst e50
      try simp (disch := decide) only [ot_rd, ot_rs, ot_rf, ot_ucd, ot_ucs] at hz50
      refine tt_iadd X dX8_lengthOfAll_53 ?_
      refine tt_istore_n X dX8_lengthOfAll_54 (by decide) ?_
      refine tt_iinc X dX8_lengthOfAll_55 rfl (by decide) ?_
      refine tt_goto X 17 dX8_lengthOfAll_58 (by decide) ?_
      refine tt_loc [(0, _), (1, _), (2, _), (3, _), (4, _)] ⟨rfl, rfl, rfl, rfl, rfl, trivial⟩ ?_
      refine ih (i + 1, _) ⟨by show 1 ≤ i + 1 ∧ (i + 1 ≤ μ 8 t ∨ (i + 1 = 1 ∧ μ 8 t = 0)); omega, ?_⟩ (by show (μ 8 t - (i + 1)).toNat < (μ 8 t - i).toNat; omega)
      show _ = y + sumN _ (i + 1 - 1).toNat
      have e := sumN_toNat (fun i => lenP (μ 2 (μ 7 (120 * t + i))) (μ 3 (μ 7 (120 * t + i))) (μ 2 (μ 7 (120 * t + i + 1))) (μ 3 (μ 7 (120 * t + i + 1)))) (show 0 ≤ i - 1 by omega)
      rw [show i - 1 + 1 = i by omega, show 120 * t + (i - 1) + 1 = 120 * t + i by omega] at e
      rw [show i + 1 - 1 = i by omega, e, hI.2, hz50]
      simp only [lenP]
      omega
def lookS (w S n ln lw un len : Int) (sh px py : Int → Int) : Int := if w = 0 then S else if w = 1 then n else if w = 2 then ln else if w = 3 then lw else if w = 4 then un else if w = 5 then len else if 10 ≤ w ∧ w ≤ 12 then sh (w - 10) else if 20 ≤ w ∧ w < 20 + n then px (w - 20) + 10 * py (w - 20) else -1
set_option maxRecDepth 100000 in
set_option maxHeartbeats 1000000 in
theorem c_lookAtOne (l : Launch) (g : ot_G) (ln : Nat) (ext : ot_L) (μ : ot_M) (w : Int) (hw : -2147483648 ≤ w ∧ w ≤ 2147483647)(hN : 0 ≤ μ 1 12 ∧ μ 1 12 ≤ 24) : ot_C l g yX9_lookAtOne cX9_lookAtOne 2 (some .int) 1 0 0 [.inr 0, .inl w] (LL ln ext) μ (ot_pi (fun r L2 μ2 => L2 = LL ln ext ∧ μ2 = μ ∧ r = (if 10 ≤ w ∧ w ≤ 12 then μ 6 (w - 10) else if 20 ≤ w ∧ w < 20 + μ 1 12 then μ 2 (w - 20) + 10 * μ 3 (w - 20) else -1))) := by
  refine ot_enter (by decide) (Nat.le_of_ble_eq_true rfl) ?_
  intro p e s m args below meth c X hr
  refine tt_iload_n X rfl dX9_lookAtOne_0 ?_
  refine tt_bipush X (by decide) dX9_lookAtOne_1 ?_
  refine tt_icmp_lt X 29 (by omega) dX9_lookAtOne_3 (by decide) (fun b3 => ?_) (fun b3 => ?_)
  · refine tt_iload_n X rfl dX9_lookAtOne_29 ?_
    refine tt_bipush X (by decide) dX9_lookAtOne_30 ?_
    refine tt_icmp_lt X 78 (by omega) dX9_lookAtOne_32 (by decide) (fun b32 => ?_) (fun b32 => ?_)
    · refine tt_iconst X dX9_lookAtOne_78 ?_
      refine tt_iret X ⟨hr.1, hr.2.1⟩ (by decide) (by decide) dX9_lookAtOne_79 ?_
      refine ⟨rfl, rfl, ?_⟩
      first | (rw [if_pos (by omega)]; done) | (rw [if_neg (by omega), if_pos (by omega)]; done) | (rw [if_neg (by omega), if_neg (by omega)])
    · refine tt_aload_n X rfl dX9_lookAtOne_35 ?_
      refine tt_getr X fX9_12 (k_0 _ _) (by decide) ⟨nofun, nofun⟩ rfl dX9_lookAtOne_36 ?_
      refine tt_iload_n X rfl dX9_lookAtOne_39 ?_
      refine tt_bipush X (by decide) dX9_lookAtOne_40 ?_
      refine tt_isub X dX9_lookAtOne_42 ?_
      refine tt_vi X rfl mX9_131 (c_isPin l g ln ext _ _ (by first | omega | (simp (disch := decide) only [ot_rd, ot_rs, ot_rf, ot_ucd, ot_ucs]; omega)) (by first | omega | (simp (disch := decide) only [ot_rd, ot_rs, ot_rf, ot_ucd, ot_ucs]; omega))) (k_1 _ _) ⟨_, rfl, rfl⟩ rfl rfl (Nat.le_of_ble_eq_true rfl) (by decide) (by decide) (by decide) dX9_lookAtOne_43 (fun z43 L43 μ43 hp => ?_)
      obtain ⟨rfl, e43, hz43⟩ := hp
      replace e43 := e43.symm
      subst e43
      try simp (disch := decide) only [ot_rd, ot_rs, ot_rf, ot_ucd, ot_ucs] at hz43
      refine tt_if_eq X 78 (by first | omega | (simp (disch := decide) only [ot_rd, ot_rs, ot_rf, ot_ucd, ot_ucs]; omega)) dX9_lookAtOne_46 (by decide) (fun b46 => ?_) (fun b46 => ?_)
      · refine tt_iconst X dX9_lookAtOne_78 ?_
        refine tt_iret X ⟨hr.1, hr.2.1⟩ (by decide) (by decide) dX9_lookAtOne_79 ?_
        refine ⟨rfl, rfl, ?_⟩
        first | (rw [if_pos (by omega)]; done) | (rw [if_neg (by omega), if_pos (by omega)]; done) | (rw [if_neg (by omega), if_neg (by omega)])
      · refine tt_aload_n X rfl dX9_lookAtOne_49 ?_
        refine tt_getr X fX9_12 (k_0 _ _) (by decide) ⟨nofun, nofun⟩ rfl dX9_lookAtOne_50 ?_
        refine tt_getr X fX9_102 (k_1 _ _) (by decide) ⟨nofun, nofun⟩ rfl dX9_lookAtOne_53 ?_
        refine tt_iload_n X rfl dX9_lookAtOne_56 ?_
        refine tt_bipush X (by decide) dX9_lookAtOne_57 ?_
        refine tt_isub X dX9_lookAtOne_59 ?_
        refine tt_iaload X (k_2 _ _) (by first | omega | (simp (disch := decide) only [ot_rd, ot_rs, ot_rf, ot_ucd, ot_ucs]; omega)) dX9_lookAtOne_60 ?_
        try simp (disch := decide) only [ot_rd, ot_rs, ot_rf, ot_ucd, ot_ucs]
        refine tt_bipush X (by decide) dX9_lookAtOne_61 ?_
        refine tt_aload_n X rfl dX9_lookAtOne_63 ?_
        refine tt_getr X fX9_12 (k_0 _ _) (by decide) ⟨nofun, nofun⟩ rfl dX9_lookAtOne_64 ?_
        refine tt_getr X fX9_105 (k_1 _ _) (by decide) ⟨nofun, nofun⟩ rfl dX9_lookAtOne_67 ?_
        refine tt_iload_n X rfl dX9_lookAtOne_70 ?_
        refine tt_bipush X (by decide) dX9_lookAtOne_71 ?_
        refine tt_isub X dX9_lookAtOne_73 ?_
        refine tt_iaload X (k_3 _ _) (by first | omega | (simp (disch := decide) only [ot_rd, ot_rs, ot_rf, ot_ucd, ot_ucs]; omega)) dX9_lookAtOne_74 ?_
        try simp (disch := decide) only [ot_rd, ot_rs, ot_rf, ot_ucd, ot_ucs]
        refine tt_imul X dX9_lookAtOne_75 ?_
        refine tt_iadd X dX9_lookAtOne_76 ?_
        refine tt_iret X ⟨hr.1, hr.2.1⟩ (by decide) (by decide) dX9_lookAtOne_77 ?_
        refine ⟨rfl, rfl, ?_⟩
        first | (rw [if_pos (by omega)]; done) | (rw [if_neg (by omega), if_pos (by omega)]; done) | (rw [if_neg (by omega), if_neg (by omega)])
  · refine tt_iload_n X rfl dX9_lookAtOne_6 ?_
    refine tt_bipush X (by decide) dX9_lookAtOne_7 ?_
    refine tt_isub X dX9_lookAtOne_9 ?_
    refine tt_si X rfl mX9_122 (c_isThread l g ln ext _ _ (by first | omega | (simp (disch := decide) only [ot_rd, ot_rs, ot_rf, ot_ucd, ot_ucs]; omega))) rfl rfl (Nat.le_of_ble_eq_true rfl) (by decide) (by decide) (by decide) dX9_lookAtOne_10 (fun z10 L10 μ10 hp => ?_)
    obtain ⟨rfl, e10, hz10⟩ := hp
    replace e10 := e10.symm
    subst e10
    try simp (disch := decide) only [ot_rd, ot_rs, ot_rf, ot_ucd, ot_ucs] at hz10
    refine tt_if_eq X 29 (by first | omega | (simp (disch := decide) only [ot_rd, ot_rs, ot_rf, ot_ucd, ot_ucs]; omega)) dX9_lookAtOne_13 (by decide) (fun b13 => ?_) (fun b13 => ?_)
    · refine tt_iload_n X rfl dX9_lookAtOne_29 ?_
      refine tt_bipush X (by decide) dX9_lookAtOne_30 ?_
      refine tt_icmp_lt X 78 (by first | omega | (simp (disch := decide) only [ot_rd, ot_rs, ot_rf, ot_ucd, ot_ucs]; omega)) dX9_lookAtOne_32 (by decide) (fun b32 => ?_) (fun b32 => ?_)
      · refine tt_iconst X dX9_lookAtOne_78 ?_
        refine tt_iret X ⟨hr.1, hr.2.1⟩ (by decide) (by decide) dX9_lookAtOne_79 ?_
        refine ⟨rfl, rfl, ?_⟩
        first | (rw [if_pos (by omega)]; done) | (rw [if_neg (by omega), if_pos (by omega)]; done) | (rw [if_neg (by omega), if_neg (by omega)])
      · refine tt_aload_n X rfl dX9_lookAtOne_35 ?_
        refine tt_getr X fX9_12 (k_0 _ _) (by decide) ⟨nofun, nofun⟩ rfl dX9_lookAtOne_36 ?_
        refine tt_iload_n X rfl dX9_lookAtOne_39 ?_
        refine tt_bipush X (by decide) dX9_lookAtOne_40 ?_
        refine tt_isub X dX9_lookAtOne_42 ?_
        refine tt_vi X rfl mX9_131 (c_isPin l g ln ext _ _ (by first | omega | (simp (disch := decide) only [ot_rd, ot_rs, ot_rf, ot_ucd, ot_ucs]; omega)) (by first | omega | (simp (disch := decide) only [ot_rd, ot_rs, ot_rf, ot_ucd, ot_ucs]; omega))) (k_1 _ _) ⟨_, rfl, rfl⟩ rfl rfl (Nat.le_of_ble_eq_true rfl) (by decide) (by decide) (by decide) dX9_lookAtOne_43 (fun z43 L43 μ43 hp => ?_)
        obtain ⟨rfl, e43, hz43⟩ := hp
        replace e43 := e43.symm
        subst e43
        try simp (disch := decide) only [ot_rd, ot_rs, ot_rf, ot_ucd, ot_ucs] at hz43
        refine tt_if_eq X 78 (by first | omega | (simp (disch := decide) only [ot_rd, ot_rs, ot_rf, ot_ucd, ot_ucs]; omega)) dX9_lookAtOne_46 (by decide) (fun b46 => ?_) (fun b46 => ?_)
        · refine tt_iconst X dX9_lookAtOne_78 ?_
          refine tt_iret X ⟨hr.1, hr.2.1⟩ (by decide) (by decide) dX9_lookAtOne_79 ?_
          refine ⟨rfl, rfl, ?_⟩
          first | (rw [if_pos (by omega)]; done) | (rw [if_neg (by omega), if_pos (by omega)]; done) | (rw [if_neg (by omega), if_neg (by omega)])
        · refine tt_aload_n X rfl dX9_lookAtOne_49 ?_
          refine tt_getr X fX9_12 (k_0 _ _) (by decide) ⟨nofun, nofun⟩ rfl dX9_lookAtOne_50 ?_
          refine tt_getr X fX9_102 (k_1 _ _) (by decide) ⟨nofun, nofun⟩ rfl dX9_lookAtOne_53 ?_
          refine tt_iload_n X rfl dX9_lookAtOne_56 ?_
          refine tt_bipush X (by decide) dX9_lookAtOne_57 ?_
          refine tt_isub X dX9_lookAtOne_59 ?_
          refine tt_iaload X (k_2 _ _) (by first | omega | (simp (disch := decide) only [ot_rd, ot_rs, ot_rf, ot_ucd, ot_ucs]; omega)) dX9_lookAtOne_60 ?_
          try simp (disch := decide) only [ot_rd, ot_rs, ot_rf, ot_ucd, ot_ucs]
          refine tt_bipush X (by decide) dX9_lookAtOne_61 ?_
          refine tt_aload_n X rfl dX9_lookAtOne_63 ?_
          refine tt_getr X fX9_12 (k_0 _ _) (by decide) ⟨nofun, nofun⟩ rfl dX9_lookAtOne_64 ?_
          refine tt_getr X fX9_105 (k_1 _ _) (by decide) ⟨nofun, nofun⟩ rfl dX9_lookAtOne_67 ?_
          refine tt_iload_n X rfl dX9_lookAtOne_70 ?_
          refine tt_bipush X (by decide) dX9_lookAtOne_71 ?_
          refine tt_isub X dX9_lookAtOne_73 ?_
          refine tt_iaload X (k_3 _ _) (by first | omega | (simp (disch := decide) only [ot_rd, ot_rs, ot_rf, ot_ucd, ot_ucs]; omega)) dX9_lookAtOne_74 ?_
          try simp (disch := decide) only [ot_rd, ot_rs, ot_rf, ot_ucd, ot_ucs]
          refine tt_imul X dX9_lookAtOne_75 ?_
          refine tt_iadd X dX9_lookAtOne_76 ?_
          refine tt_iret X ⟨hr.1, hr.2.1⟩ (by decide) (by decide) dX9_lookAtOne_77 ?_
          refine ⟨rfl, rfl, ?_⟩
          first | (rw [if_pos (by omega)]; done) | (rw [if_neg (by omega), if_pos (by omega)]; done) | (rw [if_neg (by omega), if_neg (by omega)])
    · refine tt_aload_n X rfl dX9_lookAtOne_16 ?_
      refine tt_getr X fX9_12 (k_0 _ _) (by decide) ⟨nofun, nofun⟩ rfl dX9_lookAtOne_17 ?_
      refine tt_getr X fX9_125 (k_1 _ _) (by decide) ⟨nofun, nofun⟩ rfl dX9_lookAtOne_20 ?_
      refine tt_iload_n X rfl dX9_lookAtOne_23 ?_
      refine tt_bipush X (by decide) dX9_lookAtOne_24 ?_
      refine tt_isub X dX9_lookAtOne_26 ?_
      refine tt_iaload X (k_6 _ _) (by first | omega | (simp (disch := decide) only [ot_rd, ot_rs, ot_rf, ot_ucd, ot_ucs]; omega)) dX9_lookAtOne_27 ?_
      try simp (disch := decide) only [ot_rd, ot_rs, ot_rf, ot_ucd, ot_ucs]
      refine tt_iret X ⟨hr.1, hr.2.1⟩ (by decide) (by decide) dX9_lookAtOne_28 ?_
      refine ⟨rfl, rfl, ?_⟩
      first | (rw [if_pos (by omega)]; done) | (rw [if_neg (by omega), if_pos (by omega)]; done) | (rw [if_neg (by omega), if_neg (by omega)])
set_option maxRecDepth 100000 in
set_option maxHeartbeats 1000000 in
theorem c_look (l : Launch) (g : ot_G) (ln : Nat) (ext : ot_L) (μ : ot_M) (w : Int) (hw : -2147483648 ≤ w ∧ w ≤ 2147483647)(hG : gPin (μ 1 11) (μ 1 12) (μ 2) (μ 3)) (hW : gWnd (μ 1 12) (μ 8) (μ 7))  : ot_C l g yX9_look cX9_look 2 (some .int) 3 0 0 [.inr 0, .inl w] (LL ln ext) μ (ot_pi (fun r L2 μ2 => L2 = LL ln ext ∧ μ2 = μ ∧ r = lookS w (μ 1 11) (μ 1 12) (μ 1 13) (μ 12 4) (μ 0 14) (lenA (μ 2) (μ 3) (μ 8) (μ 7)) (μ 6) (μ 2) (μ 3))) := by
  refine ot_enter (by decide) (Nat.le_of_ble_eq_true rfl) ?_
  intro p e s m args below meth c X hr
  have hNn := hG.2.1
  refine tt_iload_n X rfl dX9_look_0 ?_
  rcases (show w < 0 ∨ 5 < w ∨ w = 0 ∨ w = 1 ∨ w = 2 ∨ w = 3 ∨ w = 4 ∨ w = 5 by omega) with sw | sw | sw | sw | sw | sw | sw | sw
  · refine tt_tabOut X 88 (by omega) dX9_look_1 (Or.inl sw) (by decide) ?_
    refine tt_aload_n X rfl dX9_look_88 ?_
    refine tt_iload_n X rfl dX9_look_89 ?_
    refine tt_vi X rfl mX9_307 (c_lookAtOne l g ln ext _ _ (by omega) (by omega)) (k_0 _ _) ⟨_, rfl, rfl⟩ rfl rfl (Nat.le_of_ble_eq_true rfl) (by decide) (by decide) (by decide) dX9_look_90 (fun z90 L90 μ90 hp => ?_)
    obtain ⟨rfl, e90, hz90⟩ := hp
    replace e90 := e90.symm
    subst e90
    try simp (disch := decide) only [ot_rd, ot_rs, ot_rf, ot_ucd, ot_ucs] at hz90
    refine tt_iret X ⟨hr.1, hr.2.1⟩ (by decide) (by decide) dX9_look_93 ?_
    refine ⟨rfl, rfl, ?_⟩
    unfold lookS
    rw [if_neg (by omega), if_neg (by omega), if_neg (by omega), if_neg (by omega), if_neg (by omega), if_neg (by omega)]
    exact hz90
  · refine tt_tabOut X 88 (by omega) dX9_look_1 (Or.inr sw) (by decide) ?_
    refine tt_aload_n X rfl dX9_look_88 ?_
    refine tt_iload_n X rfl dX9_look_89 ?_
    refine tt_vi X rfl mX9_307 (c_lookAtOne l g ln ext _ _ (by omega) (by omega)) (k_0 _ _) ⟨_, rfl, rfl⟩ rfl rfl (Nat.le_of_ble_eq_true rfl) (by decide) (by decide) (by decide) dX9_look_90 (fun z90 L90 μ90 hp => ?_)
    obtain ⟨rfl, e90, hz90⟩ := hp
    replace e90 := e90.symm
    subst e90
    try simp (disch := decide) only [ot_rd, ot_rs, ot_rf, ot_ucd, ot_ucs] at hz90
    refine tt_iret X ⟨hr.1, hr.2.1⟩ (by decide) (by decide) dX9_look_93 ?_
    refine ⟨rfl, rfl, ?_⟩
    unfold lookS
    rw [if_neg (by omega), if_neg (by omega), if_neg (by omega), if_neg (by omega), if_neg (by omega), if_neg (by omega)]
    exact hz90
  · refine tt_tabIn X 40 (by omega) dX9_look_1 (by omega) (by omega) (by rw [sw]; rfl) (by decide) ?_
    refine tt_aload_n X rfl dX9_look_40 ?_
    refine tt_getr X fX9_12 (k_0 _ _) (by decide) ⟨nofun, nofun⟩ rfl dX9_look_41 ?_
    refine tt_geti X fX9_301 (k_1 _ _) (by decide) (Or.inl rfl) dX9_look_44 ?_
    refine tt_iret X ⟨hr.1, hr.2.1⟩ (by decide) (by decide) dX9_look_47 ?_
    refine ⟨rfl, rfl, ?_⟩
    unfold lookS
    first
      | (rw [if_pos (by omega)]; done)
      | (rw [if_neg (by omega), if_pos (by omega)]; done)
      | (rw [if_neg (by omega), if_neg (by omega), if_pos (by omega)]; done)
      | (rw [if_neg (by omega), if_neg (by omega), if_neg (by omega), if_pos (by omega)]; done)
      | (rw [if_neg (by omega), if_neg (by omega), if_neg (by omega), if_neg (by omega), if_pos (by omega)]; done)
      | (rw [if_neg (by omega), if_neg (by omega), if_neg (by omega), if_neg (by omega), if_neg (by omega), if_pos (by omega)]; first | done | assumption)
      | (rw [if_neg (by omega), if_neg (by omega), if_neg (by omega), if_neg (by omega), if_neg (by omega), if_neg (by omega), if_pos (by omega)]; done)
      | (rw [if_neg (by omega), if_neg (by omega), if_neg (by omega), if_neg (by omega), if_neg (by omega), if_neg (by omega), if_neg (by omega), if_pos (by omega)]; first | done | omega)
      | (rw [if_neg (by omega), if_neg (by omega), if_neg (by omega), if_neg (by omega), if_neg (by omega), if_neg (by omega), if_neg (by omega), if_neg (by omega)]; done)
  · refine tt_tabIn X 48 (by omega) dX9_look_1 (by omega) (by omega) (by rw [sw]; rfl) (by decide) ?_
    refine tt_aload_n X rfl dX9_look_48 ?_
    refine tt_getr X fX9_12 (k_0 _ _) (by decide) ⟨nofun, nofun⟩ rfl dX9_look_49 ?_
    refine tt_geti X fX9_99 (k_1 _ _) (by decide) (Or.inl rfl) dX9_look_52 ?_
    refine tt_iret X ⟨hr.1, hr.2.1⟩ (by decide) (by decide) dX9_look_55 ?_
    refine ⟨rfl, rfl, ?_⟩
    unfold lookS
    first
      | (rw [if_pos (by omega)]; done)
      | (rw [if_neg (by omega), if_pos (by omega)]; done)
      | (rw [if_neg (by omega), if_neg (by omega), if_pos (by omega)]; done)
      | (rw [if_neg (by omega), if_neg (by omega), if_neg (by omega), if_pos (by omega)]; done)
      | (rw [if_neg (by omega), if_neg (by omega), if_neg (by omega), if_neg (by omega), if_pos (by omega)]; done)
      | (rw [if_neg (by omega), if_neg (by omega), if_neg (by omega), if_neg (by omega), if_neg (by omega), if_pos (by omega)]; first | done | assumption)
      | (rw [if_neg (by omega), if_neg (by omega), if_neg (by omega), if_neg (by omega), if_neg (by omega), if_neg (by omega), if_pos (by omega)]; done)
      | (rw [if_neg (by omega), if_neg (by omega), if_neg (by omega), if_neg (by omega), if_neg (by omega), if_neg (by omega), if_neg (by omega), if_pos (by omega)]; first | done | omega)
      | (rw [if_neg (by omega), if_neg (by omega), if_neg (by omega), if_neg (by omega), if_neg (by omega), if_neg (by omega), if_neg (by omega), if_neg (by omega)]; done)
  · refine tt_tabIn X 56 (by omega) dX9_look_1 (by omega) (by omega) (by rw [sw]; rfl) (by decide) ?_
    refine tt_aload_n X rfl dX9_look_56 ?_
    refine tt_getr X fX9_12 (k_0 _ _) (by decide) ⟨nofun, nofun⟩ rfl dX9_look_57 ?_
    refine tt_geti X fX9_233 (k_1 _ _) (by decide) (Or.inl rfl) dX9_look_60 ?_
    refine tt_iret X ⟨hr.1, hr.2.1⟩ (by decide) (by decide) dX9_look_63 ?_
    refine ⟨rfl, rfl, ?_⟩
    unfold lookS
    first
      | (rw [if_pos (by omega)]; done)
      | (rw [if_neg (by omega), if_pos (by omega)]; done)
      | (rw [if_neg (by omega), if_neg (by omega), if_pos (by omega)]; done)
      | (rw [if_neg (by omega), if_neg (by omega), if_neg (by omega), if_pos (by omega)]; done)
      | (rw [if_neg (by omega), if_neg (by omega), if_neg (by omega), if_neg (by omega), if_pos (by omega)]; done)
      | (rw [if_neg (by omega), if_neg (by omega), if_neg (by omega), if_neg (by omega), if_neg (by omega), if_pos (by omega)]; first | done | assumption)
      | (rw [if_neg (by omega), if_neg (by omega), if_neg (by omega), if_neg (by omega), if_neg (by omega), if_neg (by omega), if_pos (by omega)]; done)
      | (rw [if_neg (by omega), if_neg (by omega), if_neg (by omega), if_neg (by omega), if_neg (by omega), if_neg (by omega), if_neg (by omega), if_pos (by omega)]; first | done | omega)
      | (rw [if_neg (by omega), if_neg (by omega), if_neg (by omega), if_neg (by omega), if_neg (by omega), if_neg (by omega), if_neg (by omega), if_neg (by omega)]; done)
  · refine tt_tabIn X 64 (by omega) dX9_look_1 (by omega) (by omega) (by rw [sw]; rfl) (by decide) ?_
    refine tt_aload_n X rfl dX9_look_64 ?_
    refine tt_getr X fX9_12 (k_0 _ _) (by decide) ⟨nofun, nofun⟩ rfl dX9_look_65 ?_
    refine tt_getr X fX9_176 (k_1 _ _) (by decide) ⟨nofun, nofun⟩ rfl dX9_look_68 ?_
    refine tt_geti X fX9_189 (k_12 _ _) (by decide) (Or.inl rfl) dX9_look_71 ?_
    refine tt_iret X ⟨hr.1, hr.2.1⟩ (by decide) (by decide) dX9_look_74 ?_
    refine ⟨rfl, rfl, ?_⟩
    unfold lookS
    first
      | (rw [if_pos (by omega)]; done)
      | (rw [if_neg (by omega), if_pos (by omega)]; done)
      | (rw [if_neg (by omega), if_neg (by omega), if_pos (by omega)]; done)
      | (rw [if_neg (by omega), if_neg (by omega), if_neg (by omega), if_pos (by omega)]; done)
      | (rw [if_neg (by omega), if_neg (by omega), if_neg (by omega), if_neg (by omega), if_pos (by omega)]; done)
      | (rw [if_neg (by omega), if_neg (by omega), if_neg (by omega), if_neg (by omega), if_neg (by omega), if_pos (by omega)]; first | done | assumption)
      | (rw [if_neg (by omega), if_neg (by omega), if_neg (by omega), if_neg (by omega), if_neg (by omega), if_neg (by omega), if_pos (by omega)]; done)
      | (rw [if_neg (by omega), if_neg (by omega), if_neg (by omega), if_neg (by omega), if_neg (by omega), if_neg (by omega), if_neg (by omega), if_pos (by omega)]; first | done | omega)
      | (rw [if_neg (by omega), if_neg (by omega), if_neg (by omega), if_neg (by omega), if_neg (by omega), if_neg (by omega), if_neg (by omega), if_neg (by omega)]; done)
  · refine tt_tabIn X 75 (by omega) dX9_look_1 (by omega) (by omega) (by rw [sw]; rfl) (by decide) ?_
    refine tt_aload_n X rfl dX9_look_75 ?_
    refine tt_geti X fX9_89 (k_0 _ _) (by decide) (Or.inl rfl) dX9_look_76 ?_
    refine tt_iret X ⟨hr.1, hr.2.1⟩ (by decide) (by decide) dX9_look_79 ?_
    refine ⟨rfl, rfl, ?_⟩
    unfold lookS
    first
      | (rw [if_pos (by omega)]; done)
      | (rw [if_neg (by omega), if_pos (by omega)]; done)
      | (rw [if_neg (by omega), if_neg (by omega), if_pos (by omega)]; done)
      | (rw [if_neg (by omega), if_neg (by omega), if_neg (by omega), if_pos (by omega)]; done)
      | (rw [if_neg (by omega), if_neg (by omega), if_neg (by omega), if_neg (by omega), if_pos (by omega)]; done)
      | (rw [if_neg (by omega), if_neg (by omega), if_neg (by omega), if_neg (by omega), if_neg (by omega), if_pos (by omega)]; first | done | assumption)
      | (rw [if_neg (by omega), if_neg (by omega), if_neg (by omega), if_neg (by omega), if_neg (by omega), if_neg (by omega), if_pos (by omega)]; done)
      | (rw [if_neg (by omega), if_neg (by omega), if_neg (by omega), if_neg (by omega), if_neg (by omega), if_neg (by omega), if_neg (by omega), if_pos (by omega)]; first | done | omega)
      | (rw [if_neg (by omega), if_neg (by omega), if_neg (by omega), if_neg (by omega), if_neg (by omega), if_neg (by omega), if_neg (by omega), if_neg (by omega)]; done)
  · refine tt_tabIn X 80 (by omega) dX9_look_1 (by omega) (by omega) (by rw [sw]; rfl) (by decide) ?_
    refine tt_aload_n X rfl dX9_look_80 ?_
    refine tt_getr X fX9_12 (k_0 _ _) (by decide) ⟨nofun, nofun⟩ rfl dX9_look_81 ?_
    refine tt_vi X rfl mX9_304 (c_lengthOfAll l g ln ext _ hG hW) (k_1 _ _) ⟨_, rfl, rfl⟩ rfl rfl (Nat.le_of_ble_eq_true rfl) (by decide) (by decide) (by decide) dX9_look_84 (fun z84 L84 μ84 hp => ?_)
    obtain ⟨rfl, e84, hz84⟩ := hp
    replace e84 := e84.symm
    subst e84
    try simp (disch := decide) only [ot_rd, ot_rs, ot_rf, ot_ucd, ot_ucs] at hz84
    refine tt_iret X ⟨hr.1, hr.2.1⟩ (by decide) (by decide) dX9_look_87 ?_
    refine ⟨rfl, rfl, ?_⟩
    unfold lookS
    first
      | (rw [if_pos (by omega)]; done)
      | (rw [if_neg (by omega), if_pos (by omega)]; done)
      | (rw [if_neg (by omega), if_neg (by omega), if_pos (by omega)]; done)
      | (rw [if_neg (by omega), if_neg (by omega), if_neg (by omega), if_pos (by omega)]; done)
      | (rw [if_neg (by omega), if_neg (by omega), if_neg (by omega), if_neg (by omega), if_pos (by omega)]; done)
      | (rw [if_neg (by omega), if_neg (by omega), if_neg (by omega), if_neg (by omega), if_neg (by omega), if_pos (by omega)]; first | done | assumption)
      | (rw [if_neg (by omega), if_neg (by omega), if_neg (by omega), if_neg (by omega), if_neg (by omega), if_neg (by omega), if_pos (by omega)]; done)
      | (rw [if_neg (by omega), if_neg (by omega), if_neg (by omega), if_neg (by omega), if_neg (by omega), if_neg (by omega), if_neg (by omega), if_pos (by omega)]; first | done | omega)
      | (rw [if_neg (by omega), if_neg (by omega), if_neg (by omega), if_neg (by omega), if_neg (by omega), if_neg (by omega), if_neg (by omega), if_neg (by omega)]; done)

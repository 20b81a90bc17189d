/-- the two texts of the reader -/
def ot_gz (g : ot_G) : Prop := stZ g ∧ (∃ q v tx, stO g q v 98 wdL ∧ ∀ U : State, g.2.2.2.2 U g.1 → vk_R RX4 89 tx q U) ∧ ∃ q v tx, stO g q v 10 sgL ∧ ∀ U : State, g.2.2.2.2 U g.1 → vk_R RX4 81 tx q U
set_option maxRecDepth 100000 in
set_option maxHeartbeats 1000000 in
theorem c_isLetter (l : Launch) (g : ot_G) (ln : Nat) (ext : ot_L) (μ : ot_M) (x : Int) (hx : -1 ≤ x ∧ x ≤ 255)  : ot_C l g yX4_isLetter cX4_isLetter 1 (some .boolean) 0 0 0 [.inl x] (LL ln ext) μ (ot_pi (fun r L2 μ2 => L2 = LL ln ext ∧ μ2 = μ ∧ r = (if ltB x then 1 else 0))) := by
  refine ot_enter (by decide) (Nat.le_of_ble_eq_true rfl) ?_
  intro p e s m args below meth c X hr
  refine tt_iload_n X rfl dX4_isLetter_0 ?_
  refine tt_bipush X (by decide) dX4_isLetter_1 ?_
  refine tt_icmp_lt X 12 (by omega) dX4_isLetter_3 (by decide) (fun b3 => ?_) (fun b3 => ?_)
  · refine tt_iload_n X rfl dX4_isLetter_12 ?_
    refine tt_bipush X (by decide) dX4_isLetter_13 ?_
    refine tt_icmp_lt X 28 (by omega) dX4_isLetter_15 (by decide) (fun b15 => ?_) (fun b15 => ?_)
    · refine tt_iconst X dX4_isLetter_28 ?_
      refine tt_zret X ⟨hr.1, hr.2.1⟩ (by omega) (by decide) (by decide) dX4_isLetter_29 ?_
      refine ⟨rfl, rfl, ?_⟩
      unfold ltB
      first | (rw [if_pos (decide_eq_true (by omega))]; done) | (rw [if_neg (by rw [decide_eq_true_eq]; omega)]; done)
    · refine tt_iload_n X rfl dX4_isLetter_18 ?_
      refine tt_bipush X (by decide) dX4_isLetter_19 ?_
      refine tt_icmp_gt X 28 (by omega) dX4_isLetter_21 (by decide) (fun b21 => ?_) (fun b21 => ?_)
      · refine tt_iconst X dX4_isLetter_28 ?_
        refine tt_zret X ⟨hr.1, hr.2.1⟩ (by omega) (by decide) (by decide) dX4_isLetter_29 ?_
        refine ⟨rfl, rfl, ?_⟩
        unfold ltB
        first | (rw [if_pos (decide_eq_true (by omega))]; done) | (rw [if_neg (by rw [decide_eq_true_eq]; omega)]; done)
      · refine tt_iconst X dX4_isLetter_24 ?_
        refine tt_goto X 29 dX4_isLetter_25 (by decide) ?_
        refine tt_zret X ⟨hr.1, hr.2.1⟩ (by omega) (by decide) (by decide) dX4_isLetter_29 ?_
        refine ⟨rfl, rfl, ?_⟩
        unfold ltB
        first | (rw [if_pos (decide_eq_true (by omega))]; done) | (rw [if_neg (by rw [decide_eq_true_eq]; omega)]; done)
  · refine tt_iload_n X rfl dX4_isLetter_6 ?_
    refine tt_bipush X (by decide) dX4_isLetter_7 ?_
    refine tt_icmp_le X 24 (by omega) dX4_isLetter_9 (by decide) (fun b9 => ?_) (fun b9 => ?_)
    · refine tt_iconst X dX4_isLetter_24 ?_
      refine tt_goto X 29 dX4_isLetter_25 (by decide) ?_
      refine tt_zret X ⟨hr.1, hr.2.1⟩ (by omega) (by decide) (by decide) dX4_isLetter_29 ?_
      refine ⟨rfl, rfl, ?_⟩
      unfold ltB
      first | (rw [if_pos (decide_eq_true (by omega))]; done) | (rw [if_neg (by rw [decide_eq_true_eq]; omega)]; done)
    · refine tt_iload_n X rfl dX4_isLetter_12 ?_
      refine tt_bipush X (by decide) dX4_isLetter_13 ?_
      refine tt_icmp_lt X 28 (by omega) dX4_isLetter_15 (by decide) (fun b15 => ?_) (fun b15 => ?_)
      · refine tt_iconst X dX4_isLetter_28 ?_
        refine tt_zret X ⟨hr.1, hr.2.1⟩ (by omega) (by decide) (by decide) dX4_isLetter_29 ?_
        refine ⟨rfl, rfl, ?_⟩
        unfold ltB
        first | (rw [if_pos (decide_eq_true (by omega))]; done) | (rw [if_neg (by rw [decide_eq_true_eq]; omega)]; done)
      · refine tt_iload_n X rfl dX4_isLetter_18 ?_
        refine tt_bipush X (by decide) dX4_isLetter_19 ?_
        refine tt_icmp_gt X 28 (by omega) dX4_isLetter_21 (by decide) (fun b21 => ?_) (fun b21 => ?_)
        · refine tt_iconst X dX4_isLetter_28 ?_
          refine tt_zret X ⟨hr.1, hr.2.1⟩ (by omega) (by decide) (by decide) dX4_isLetter_29 ?_
          refine ⟨rfl, rfl, ?_⟩
          unfold ltB
          first | (rw [if_pos (decide_eq_true (by omega))]; done) | (rw [if_neg (by rw [decide_eq_true_eq]; omega)]; done)
        · refine tt_iconst X dX4_isLetter_24 ?_
          refine tt_goto X 29 dX4_isLetter_25 (by decide) ?_
          refine tt_zret X ⟨hr.1, hr.2.1⟩ (by omega) (by decide) (by decide) dX4_isLetter_29 ?_
          refine ⟨rfl, rfl, ?_⟩
          unfold ltB
          first | (rw [if_pos (decide_eq_true (by omega))]; done) | (rw [if_neg (by rw [decide_eq_true_eq]; omega)]; done)
set_option maxRecDepth 100000 in
set_option maxHeartbeats 1000000 in
theorem c_isDigit (l : Launch) (g : ot_G) (ln : Nat) (ext : ot_L) (μ : ot_M) (x : Int) (hx : -1 ≤ x ∧ x ≤ 255)  : ot_C l g yX4_isDigit cX4_isDigit 1 (some .boolean) 0 0 0 [.inl x] (LL ln ext) μ (ot_pi (fun r L2 μ2 => L2 = LL ln ext ∧ μ2 = μ ∧ r = (if dgB x then 1 else 0))) := by
  refine ot_enter (by decide) (Nat.le_of_ble_eq_true rfl) ?_
  intro p e s m args below meth c X hr
  refine tt_iload_n X rfl dX4_isDigit_0 ?_
  refine tt_bipush X (by decide) dX4_isDigit_1 ?_
  refine tt_icmp_lt X 16 (by omega) dX4_isDigit_3 (by decide) (fun b3 => ?_) (fun b3 => ?_)
  · refine tt_iconst X dX4_isDigit_16 ?_
    refine tt_zret X ⟨hr.1, hr.2.1⟩ (by omega) (by decide) (by decide) dX4_isDigit_17 ?_
    refine ⟨rfl, rfl, ?_⟩
    unfold dgB
    first | (rw [if_pos (decide_eq_true (by omega))]; done) | (rw [if_neg (by rw [decide_eq_true_eq]; omega)]; done)
  · refine tt_iload_n X rfl dX4_isDigit_6 ?_
    refine tt_bipush X (by decide) dX4_isDigit_7 ?_
    refine tt_icmp_gt X 16 (by omega) dX4_isDigit_9 (by decide) (fun b9 => ?_) (fun b9 => ?_)
    · refine tt_iconst X dX4_isDigit_16 ?_
      refine tt_zret X ⟨hr.1, hr.2.1⟩ (by omega) (by decide) (by decide) dX4_isDigit_17 ?_
      refine ⟨rfl, rfl, ?_⟩
      unfold dgB
      first | (rw [if_pos (decide_eq_true (by omega))]; done) | (rw [if_neg (by rw [decide_eq_true_eq]; omega)]; done)
    · refine tt_iconst X dX4_isDigit_12 ?_
      refine tt_goto X 17 dX4_isDigit_13 (by decide) ?_
      refine tt_zret X ⟨hr.1, hr.2.1⟩ (by omega) (by decide) (by decide) dX4_isDigit_17 ?_
      refine ⟨rfl, rfl, ?_⟩
      unfold dgB
      first | (rw [if_pos (decide_eq_true (by omega))]; done) | (rw [if_neg (by rw [decide_eq_true_eq]; omega)]; done)
set_option maxRecDepth 100000 in
set_option maxHeartbeats 1000000 in
theorem c_keywordOf (l : Launch) (g : ot_G) (ln : Nat) (ext : ot_L) (μ : ot_M) (hgz : ot_gz g) (a b : Nat) (hab : a < b) (T : Nat → Int) (n : Nat) (hT : ∀ k, k < n → μ 58 (k : Int) = T k) (hT2 : ∀ k, 0 ≤ T k ∧ T k ≤ 255) (hn : n ≤ 400) (hb : b ≤ n)  : ot_C l g yX4_keywordOf cX4_keywordOf 5 (some .int) 4 0 0 [.inr 58, .inl (a : Int), .inl (b : Int)] (LL ln ext) μ (ot_pi (fun r L2 μ2 => L2 = LL ln ext ∧ μ2 = μ ∧ r = (if kwN T a b < 14 then (kwN T a b : Int) else 22))) := by
  refine ot_enter (by decide) (Nat.le_of_ble_eq_true rfl) ?_
  intro p e s m args below meth c X hr
  obtain ⟨hz0, ⟨zq, zv, ztx, hzo, hzr⟩, _⟩ := hgz
  have hwc : ∀ w i, 0 ≤ wdC w i ∧ wdC w i ≤ 127 := fun w i => hzo.2.2.2.2.2 _
  refine tt_iconst X dX4_keywordOf_0 ?_
  refine tt_istore_n X dX4_keywordOf_1 (by decide) ?_
  refine tt_loc [(0, _), (1, _), (2, _), (3, _)] ⟨rfl, rfl, rfl, rfl, trivial⟩ ?_
  refine tt_loop (α := Nat) (fun w => 14 - w) (fun w => w ≤ 14 ∧ ∀ u, u < w → wdE T a b u = false) (fun w => μ) (fun w => [(0, .inr 58), (1, .inl (a : Int)), (2, .inl (b : Int)), (3, .inl (w : Int))]) 0 ⟨Nat.zero_le _, fun u hu => absurd hu (Nat.not_lt_zero u)⟩ ?_
  intro w hI ih
  try dsimp only at hI ih ⊢
  have hw14 := hI.1
  refine tt_iload_n X rfl dX4_keywordOf_2 ?_
  refine tt_bipush X (by decide) dX4_keywordOf_3 ?_
  refine tt_icmp_ge X 84 (by first | omega | (simp (disch := decide) only [ot_rd, ot_rs, ot_rf, ot_ucd, ot_ucs]; omega)) dX4_keywordOf_5 (by decide) (fun b5 => ?_) (fun b5 => ?_)
  · refine tt_bipush X (by decide) dX4_keywordOf_84 ?_
    refine tt_iret X ⟨hr.1, hr.2.1⟩ (by decide) (by decide) dX4_keywordOf_86 ?_
    refine ⟨rfl, rfl, ?_⟩
    have hk : kwN T a b = 14 := lsN_none 14 (fun u hu => by
      first
        | exact hI.2 u (by omega)
        | (rw [Bool.eq_false_iff]
           intro q
           have := (wdE_iff.mp q).1
           omega))
    rw [hk, if_neg (by omega)]
  · refine tt_iload_n X rfl dX4_keywordOf_8 ?_
    refine tt_iload_n X rfl dX4_keywordOf_9 ?_
    refine tt_isub X dX4_keywordOf_10 ?_
    refine tt_bipush X (by decide) dX4_keywordOf_11 ?_
    refine tt_icmp_ge X 84 (by first | omega | (simp (disch := decide) only [ot_rd, ot_rs, ot_rf, ot_ucd, ot_ucs]; omega)) dX4_keywordOf_13 (by decide) (fun b13 => ?_) (fun b13 => ?_)
    · refine tt_bipush X (by decide) dX4_keywordOf_84 ?_
      refine tt_iret X ⟨hr.1, hr.2.1⟩ (by decide) (by decide) dX4_keywordOf_86 ?_
      refine ⟨rfl, rfl, ?_⟩
      have hk : kwN T a b = 14 := lsN_none 14 (fun u hu => by
        first
          | exact hI.2 u (by omega)
          | (rw [Bool.eq_false_iff]
             intro q
             have := (wdE_iff.mp q).1
             omega))
      rw [hk, if_neg (by omega)]
    · refine tt_iload_n X rfl dX4_keywordOf_16 ?_
      refine tt_istore X dX4_keywordOf_17 (by decide) ?_
      refine tt_loc [(0, _), (1, _), (2, _), (3, _), (4, _)] ⟨rfl, rfl, rfl, rfl, rfl, trivial⟩ ?_
      refine tt_loop (α := Nat) (fun i => b - i) (fun i => (a ≤ i ∧ i ≤ b) ∧ ∀ u, u < i - a → wdC w u = T (a + u)) (fun i => μ) (fun i => [(0, .inr 58), (1, .inl (a : Int)), (2, .inl (b : Int)), (3, .inl (w : Int)), (4, .inl (i : Int))]) a ⟨⟨Nat.le_refl _, by omega⟩, fun u hu => by omega⟩ ?_
      intro i hI2 ih2
      try dsimp only at hI2 ih2 ⊢
      have hi := hI2.1
      refine tt_iload X rfl dX4_keywordOf_19 ?_
      refine tt_iload_n X rfl dX4_keywordOf_21 ?_
      refine tt_icmp_ge X 52 (by first | omega | (simp (disch := decide) only [ot_rd, ot_rs, ot_rf, ot_ucd, ot_ucs]; omega)) dX4_keywordOf_22 (by decide) (fun b22 => ?_) (fun b22 => ?_)
      · refine tt_iload X rfl dX4_keywordOf_52 ?_
        refine tt_iload_n X rfl dX4_keywordOf_54 ?_
        refine tt_icmp_ne X 78 (by first | omega | (simp (disch := decide) only [ot_rd, ot_rs, ot_rf, ot_ucd, ot_ucs]; omega)) dX4_keywordOf_55 (by decide) (fun b55 => ?_) (fun b55 => ?_)
        · refine tt_iinc X dX4_keywordOf_78 rfl (by decide) ?_
          refine tt_goto X 2 dX4_keywordOf_81 (by decide) ?_
          refine tt_loc [(0, _), (1, _), (2, _), (3, _)] ⟨rfl, rfl, rfl, rfl, trivial⟩ ?_
          refine ih (w + 1) ⟨by omega, fun u hu => ?_⟩ (by omega)
          by_cases e1 : u = w
          · subst e1
            rw [Bool.eq_false_iff]
            intro q
            have q2 := wdE_iff.mp q
            first
              | (have := q2.2.2; omega)
              | (have q3 := q2.2.1 (i - a) (by omega)
                 rw [show a + (i - a) = i by omega] at q3
                 omega)
          · exact hI.2 u (by omega)
        · refine tt_ofV ?_
          refine tv_ldcS X hzr dX4_keywordOf_58 ?_
          refine tv_iload_n X rfl dX4_keywordOf_60 ?_
          refine tv_bipush X (by decide) dX4_keywordOf_61 ?_
          refine tv_imul X dX4_keywordOf_63 ?_
          refine tv_iload_n X rfl dX4_keywordOf_64 ?_
          refine tv_iadd X dX4_keywordOf_65 ?_
          refine tv_iload_n X rfl dX4_keywordOf_66 ?_
          refine tv_isub X dX4_keywordOf_67 ?_
          refine tv_callV X rfl mX4_91 (s_charAt l g _ _ zq zv 98 wdL hzo hz0 ((w : Int) * 7 + (b : Int) - (a : Int)) (by omega)) hzo.1 rfl rfl (by unfold ot_c1; simp [Value.category, ot_i]) (by decide) (by decide) (by decide) dX4_keywordOf_68 (fun r L2 μ2 hp => ?_)
          obtain ⟨z68, rfl, e1, e2, hz68⟩ := hp
          replace e1 := e1.symm
          replace e2 := e2.symm
          subst e1
          subst e2
          refine tv_ofT (sw := [.inl z68]) ?_
          have hch68 : z68 = wdC w (b - a) := by rw [hz68, show ((w : Int) * 7 + (b : Int) - (a : Int)).toNat = 7 * w + (b - a) by omega]; rfl
          refine tt_top hch68 ?_
          refine tt_bipush X (by decide) dX4_keywordOf_71 ?_
          have hwb := hwc w (b - a)
          refine tt_icmp_ne X 78 (by first | omega | (simp (disch := decide) only [ot_rd, ot_rs, ot_rf, ot_ucd, ot_ucs]; omega)) dX4_keywordOf_73 (by decide) (fun b73 => ?_) (fun b73 => ?_)
          · refine tt_iinc X dX4_keywordOf_78 rfl (by decide) ?_
            refine tt_goto X 2 dX4_keywordOf_81 (by decide) ?_
            refine tt_loc [(0, _), (1, _), (2, _), (3, _)] ⟨rfl, rfl, rfl, rfl, trivial⟩ ?_
            refine ih (w + 1) ⟨by omega, fun u hu => ?_⟩ (by omega)
            by_cases e1 : u = w
            · subst e1
              rw [Bool.eq_false_iff]
              intro q
              have q2 := wdE_iff.mp q
              first
                | (have := q2.2.2; omega)
                | (have q3 := q2.2.1 (i - a) (by omega)
                   rw [show a + (i - a) = i by omega] at q3
                   omega)
            · exact hI.2 u (by omega)
          · refine tt_iload_n X rfl dX4_keywordOf_76 ?_
            refine tt_iret X ⟨hr.1, hr.2.1⟩ (by decide) (by decide) dX4_keywordOf_77 ?_
            have hie : i = b := by omega
            have hP : wdE T a b w = true := wdE_iff.mpr ⟨by omega, fun u hu => hI2.2 u (by omega), by omega⟩
            have hk : kwN T a b = w := lsN_eq hP hI.2 14 (by omega)
            refine ⟨rfl, rfl, ?_⟩
            rw [hk, if_pos (by omega)]
      · refine tt_ofV ?_
        refine tv_ldcS X hzr dX4_keywordOf_25 ?_
        refine tv_iload_n X rfl dX4_keywordOf_27 ?_
        refine tv_bipush X (by decide) dX4_keywordOf_28 ?_
        refine tv_imul X dX4_keywordOf_30 ?_
        refine tv_iload X rfl dX4_keywordOf_31 ?_
        refine tv_iadd X dX4_keywordOf_33 ?_
        refine tv_iload_n X rfl dX4_keywordOf_34 ?_
        refine tv_isub X dX4_keywordOf_35 ?_
        refine tv_callV X rfl mX4_91 (s_charAt l g _ _ zq zv 98 wdL hzo hz0 ((w : Int) * 7 + (i : Int) - (a : Int)) (by omega)) hzo.1 rfl rfl (by unfold ot_c1; simp [Value.category, ot_i]) (by decide) (by decide) (by decide) dX4_keywordOf_36 (fun r L2 μ2 hp => ?_)
        obtain ⟨z36, rfl, e1, e2, hz36⟩ := hp
        replace e1 := e1.symm
        replace e2 := e2.symm
        subst e1
        subst e2
        refine tv_ofT (sw := [.inl z36]) ?_
        have hch36 : z36 = wdC w (i - a) := by rw [hz36, show ((w : Int) * 7 + (i : Int) - (a : Int)).toNat = 7 * w + (i - a) by omega]; rfl
        refine tt_top hch36 ?_
        refine tt_aload_n X rfl dX4_keywordOf_39 ?_
        refine tt_iload X rfl dX4_keywordOf_40 ?_
        refine tt_iaload X (k_58 _ _) (by first | omega | (simp (disch := decide) only [ot_rd, ot_rs, ot_rf, ot_ucd, ot_ucs]; omega)) dX4_keywordOf_42 ?_
        try simp (disch := decide) only [ot_rd, ot_rs, ot_rf, ot_ucd, ot_ucs]
        have hTi := hT2 i
        have hwi := hwc w (i - a)
        refine tt_top (hT i (by omega)) ?_
        refine tt_icmp_ne X 52 (by first | omega | (simp (disch := decide) only [ot_rd, ot_rs, ot_rf, ot_ucd, ot_ucs]; omega)) dX4_keywordOf_43 (by decide) (fun b43 => ?_) (fun b43 => ?_)
        · refine tt_iload X rfl dX4_keywordOf_52 ?_
          refine tt_iload_n X rfl dX4_keywordOf_54 ?_
          refine tt_icmp_ne X 78 (by first | omega | (simp (disch := decide) only [ot_rd, ot_rs, ot_rf, ot_ucd, ot_ucs]; omega)) dX4_keywordOf_55 (by decide) (fun b55 => ?_) (fun b55 => ?_)
          · refine tt_iinc X dX4_keywordOf_78 rfl (by decide) ?_
            refine tt_goto X 2 dX4_keywordOf_81 (by decide) ?_
            refine tt_loc [(0, _), (1, _), (2, _), (3, _)] ⟨rfl, rfl, rfl, rfl, trivial⟩ ?_
            refine ih (w + 1) ⟨by omega, fun u hu => ?_⟩ (by omega)
            by_cases e1 : u = w
            · subst e1
              rw [Bool.eq_false_iff]
              intro q
              have q2 := wdE_iff.mp q
              first
                | (have := q2.2.2; omega)
                | (have q3 := q2.2.1 (i - a) (by omega)
                   rw [show a + (i - a) = i by omega] at q3
                   omega)
            · exact hI.2 u (by omega)
          · refine tt_ofV ?_
            refine tv_ldcS X hzr dX4_keywordOf_58 ?_
            refine tv_iload_n X rfl dX4_keywordOf_60 ?_
            refine tv_bipush X (by decide) dX4_keywordOf_61 ?_
            refine tv_imul X dX4_keywordOf_63 ?_
            refine tv_iload_n X rfl dX4_keywordOf_64 ?_
            refine tv_iadd X dX4_keywordOf_65 ?_
            refine tv_iload_n X rfl dX4_keywordOf_66 ?_
            refine tv_isub X dX4_keywordOf_67 ?_
            refine tv_callV X rfl mX4_91 (s_charAt l g _ _ zq zv 98 wdL hzo hz0 ((w : Int) * 7 + (b : Int) - (a : Int)) (by omega)) hzo.1 rfl rfl (by unfold ot_c1; simp [Value.category, ot_i]) (by decide) (by decide) (by decide) dX4_keywordOf_68 (fun r L2 μ2 hp => ?_)
            obtain ⟨z68, rfl, e1, e2, hz68⟩ := hp
            replace e1 := e1.symm
            replace e2 := e2.symm
            subst e1
            subst e2
            refine tv_ofT (sw := [.inl z68]) ?_
            have hch68 : z68 = wdC w (b - a) := by rw [hz68, show ((w : Int) * 7 + (b : Int) - (a : Int)).toNat = 7 * w + (b - a) by omega]; rfl
            refine tt_top hch68 ?_
            refine tt_bipush X (by decide) dX4_keywordOf_71 ?_
            have hwb := hwc w (b - a)
            refine tt_icmp_ne X 78 (by first | omega | (simp (disch := decide) only [ot_rd, ot_rs, ot_rf, ot_ucd, ot_ucs]; omega)) dX4_keywordOf_73 (by decide) (fun b73 => ?_) (fun b73 => ?_)
            · refine tt_iinc X dX4_keywordOf_78 rfl (by decide) ?_
              refine tt_goto X 2 dX4_keywordOf_81 (by decide) ?_
              refine tt_loc [(0, _), (1, _), (2, _), (3, _)] ⟨rfl, rfl, rfl, rfl, trivial⟩ ?_
              refine ih (w + 1) ⟨by omega, fun u hu => ?_⟩ (by omega)
              by_cases e1 : u = w
              · subst e1
                rw [Bool.eq_false_iff]
                intro q
                have q2 := wdE_iff.mp q
                first
                  | (have := q2.2.2; omega)
                  | (have q3 := q2.2.1 (i - a) (by omega)
                     rw [show a + (i - a) = i by omega] at q3
                     omega)
              · exact hI.2 u (by omega)
            · refine tt_iload_n X rfl dX4_keywordOf_76 ?_
              refine tt_iret X ⟨hr.1, hr.2.1⟩ (by decide) (by decide) dX4_keywordOf_77 ?_
              have hie : i = b := by omega
              have hP : wdE T a b w = true := wdE_iff.mpr ⟨by omega, fun u hu => hI2.2 u (by omega), by omega⟩
              have hk : kwN T a b = w := lsN_eq hP hI.2 14 (by omega)
              refine ⟨rfl, rfl, ?_⟩
              rw [hk, if_pos (by omega)]
        · refine tt_iinc X dX4_keywordOf_46 rfl (by decide) ?_
          refine tt_goto X 19 dX4_keywordOf_49 (by decide) ?_
          refine tt_loc [(0, _), (1, _), (2, _), (3, _), (4, _)] ⟨rfl, rfl, rfl, rfl, rfl, trivial⟩ ?_
          refine ih2 (i + 1) ⟨by omega, fun u hu => ?_⟩ (by omega)
          by_cases e1 : u = i - a
          · subst e1
            rw [show a + (i - a) = i by omega]
            omega
          · exact hI2.2 u (by omega)
set_option maxRecDepth 100000 in
set_option maxHeartbeats 1000000 in
theorem c_valueOf (l : Launch) (g : ot_G) (ln : Nat) (ext : ot_L) (μ : ot_M) (a b : Nat) (hab : a < b) (T : Nat → Int) (n : Nat) (hT : ∀ k, k < n → μ 58 (k : Int) = T k) (hT2 : ∀ k, 0 ≤ T k ∧ T k ≤ 255) (hn : n ≤ 400) (hb : b ≤ n) (hd : ∀ k, a ≤ k → k < b → 48 ≤ T k ∧ T k ≤ 57)  : ot_C l g yX4_valueOf cX4_valueOf 5 (some .int) 0 0 0 [.inr 58, .inl (a : Int), .inl (b : Int)] (LL ln ext) μ (ot_pi (fun r L2 μ2 => L2 = LL ln ext ∧ μ2 = μ ∧ r = (dvN T a (min (b - a) 4)))) := by
  refine ot_enter (by decide) (Nat.le_of_ble_eq_true rfl) ?_
  intro p e s m args below meth c X hr
  refine tt_iconst X dX4_valueOf_0 ?_
  refine tt_istore_n X dX4_valueOf_1 (by decide) ?_
  refine tt_iload_n X rfl dX4_valueOf_2 ?_
  refine tt_istore X dX4_valueOf_3 (by decide) ?_
  refine tt_loc [(0, _), (1, _), (2, _), (3, _), (4, _)] ⟨rfl, rfl, rfl, rfl, rfl, trivial⟩ ?_
  refine tt_loop (α := Nat × Int) (fun ((k, v)) => 4 - k) (fun ((k, v)) => k ≤ min (b - a) 4 ∧ v = dvN T a k ∧ (0 ≤ v ∧ v ≤ 9999)) (fun ((k, v)) => μ) (fun ((k, v)) => [(0, .inr 58), (1, .inl (a : Int)), (2, .inl (b : Int)), (3, .inl v), (4, .inl ((a + k : Nat) : Int))]) (0, 0) ⟨Nat.zero_le _, rfl, by show 0 ≤ (0 : Int) ∧ (0 : Int) ≤ 9999; decide⟩ ?_
  intro a hI ih
  obtain ⟨k, v⟩ := a
  try dsimp only at hI ih ⊢
  replace hI : k ≤ min (b - a) 4 ∧ v = dvN T a k ∧ (0 ≤ v ∧ v ≤ 9999) := hI
  have hk := hI.1
  refine tt_iload X rfl dX4_valueOf_5 ?_
  refine tt_iload_n X rfl dX4_valueOf_7 ?_
  refine tt_icmp_ge X 38 (by first | omega | (simp (disch := decide) only [ot_rd, ot_rs, ot_rf, ot_ucd, ot_ucs]; omega)) dX4_valueOf_8 (by decide) (fun b8 => ?_) (fun b8 => ?_)
  · refine tt_iload_n X rfl dX4_valueOf_38 ?_
    refine tt_iret X ⟨hr.1, hr.2.1⟩ (by decide) (by decide) dX4_valueOf_39 ?_
    refine ⟨rfl, rfl, ?_⟩
    rw [hI.2.1, show k = min (b - a) 4 by omega]
  · refine tt_iload X rfl dX4_valueOf_11 ?_
    refine tt_iload_n X rfl dX4_valueOf_13 ?_
    refine tt_iconst X dX4_valueOf_14 ?_
    refine tt_iadd X dX4_valueOf_15 ?_
    refine tt_icmp_ge X 38 (by first | omega | (simp (disch := decide) only [ot_rd, ot_rs, ot_rf, ot_ucd, ot_ucs]; omega)) dX4_valueOf_16 (by decide) (fun b16 => ?_) (fun b16 => ?_)
    · refine tt_iload_n X rfl dX4_valueOf_38 ?_
      refine tt_iret X ⟨hr.1, hr.2.1⟩ (by decide) (by decide) dX4_valueOf_39 ?_
      refine ⟨rfl, rfl, ?_⟩
      rw [hI.2.1, show k = min (b - a) 4 by omega]
    · refine tt_iload_n X rfl dX4_valueOf_19 ?_
      refine tt_bipush X (by decide) dX4_valueOf_20 ?_
      refine tt_imul X dX4_valueOf_22 ?_
      refine tt_aload_n X rfl dX4_valueOf_23 ?_
      refine tt_iload X rfl dX4_valueOf_24 ?_
      refine tt_iaload X (k_58 _ _) (by first | omega | (simp (disch := decide) only [ot_rd, ot_rs, ot_rf, ot_ucd, ot_ucs]; omega)) dX4_valueOf_26 ?_
      try simp (disch := decide) only [ot_rd, ot_rs, ot_rf, ot_ucd, ot_ucs]
      refine tt_top (hT (a + k) (by omega)) ?_
      refine tt_iadd X dX4_valueOf_27 ?_
      refine tt_bipush X (by decide) dX4_valueOf_28 ?_
      refine tt_isub X dX4_valueOf_30 ?_
      refine tt_istore_n X dX4_valueOf_31 (by decide) ?_
      refine tt_iinc X dX4_valueOf_32 rfl (by decide) ?_
      refine tt_goto X 5 dX4_valueOf_35 (by decide) ?_
      refine tt_loc [(0, _), (1, _), (2, _), (3, _), (4, _)] ⟨rfl, rfl, rfl, rfl, rfl, trivial⟩ ?_
      have hr := dvN_rng (T := T) (a := a) (k + 1) (by omega) (fun u hu => hd (a + u) (by omega) (by omega))
      have hp : (10 ^ (k + 1) : Nat) ≤ 10 ^ 4 := Nat.pow_le_pow_right (by decide) (by omega)
      have hst : dvN T a (k + 1) = v * 10 + T (a + k) - 48 := by rw [hI.2.1]; rfl
      refine ih (k + 1, v * 10 + T (a + k) - 48) ⟨by show k + 1 ≤ min (b - a) 4; omega, hst.symm, ?_⟩ (by show 4 - (k + 1) < 4 - k; omega)
      show 0 ≤ v * 10 + T (a + k) - 48 ∧ v * 10 + T (a + k) - 48 ≤ 9999
      omega
set_option maxRecDepth 100000 in
set_option maxHeartbeats 1000000 in
theorem c_put (l : Launch) (g : ot_G) (ln : Nat) (ext : ot_L) (μ : ot_M) (x w v : Int) (hc : 0 ≤ μ 49 4 ∧ μ 49 4 ≤ 400)  : ot_C l g yX4_put cX4_put 4 none 0 0 0 [.inr 49, .inl x, .inl w, .inl v] (LL ln ext) μ (ot_pv (fun L2 μ2 => L2 = LL ln ext ∧ μ2 = ot_up (ot_up (ot_up (ot_up μ 55 (μ 49 4) x) 56 (μ 49 4) w) 57 (μ 49 4) v) 49 4 (μ 49 4 + 1))) := by
  refine ot_enter (by decide) (Nat.le_of_ble_eq_true rfl) ?_
  intro p e s m args below meth c X hr
  refine tt_aload_n X rfl dX4_put_0 ?_
  refine tt_geti X fX4_60 (k_49 _ _) (by decide) (Or.inl rfl) dX4_put_1 ?_
  refine tt_sipush X (by decide) dX4_put_4 ?_
  refine tt_icmp_gt X 50 (by omega) dX4_put_7 (by decide) (fun b7 => ?_) (fun b7 => ?_)
  · exact absurd b7 (by omega)
  · refine tt_aload_n X rfl dX4_put_10 ?_
    refine tt_getr X fX4_18 (k_49 _ _) (by decide) ⟨nofun, nofun⟩ rfl dX4_put_11 ?_
    refine tt_aload_n X rfl dX4_put_14 ?_
    refine tt_geti X fX4_60 (k_49 _ _) (by decide) (Or.inl rfl) dX4_put_15 ?_
    refine tt_iload_n X rfl dX4_put_18 ?_
    refine tt_iastore X (k_55 _ _) (by omega) dX4_put_19 ?_
    refine tt_aload_n X rfl dX4_put_20 ?_
    refine tt_getr X fX4_22 (k_49 _ _) (by decide) ⟨nofun, nofun⟩ rfl dX4_put_21 ?_
    refine tt_aload_n X rfl dX4_put_24 ?_
    refine tt_geti X fX4_60 (k_49 _ _) (by decide) (Or.inl rfl) dX4_put_25 ?_
    try simp (disch := decide) only [ot_rd, ot_rs, ot_rf, ot_ucd, ot_ucs]
    refine tt_iload_n X rfl dX4_put_28 ?_
    refine tt_iastore X (k_56 _ _) (by first | omega | (simp (disch := decide) only [ot_rd, ot_rs, ot_rf, ot_ucd, ot_ucs]; omega)) dX4_put_29 ?_
    refine tt_aload_n X rfl dX4_put_30 ?_
    refine tt_getr X fX4_25 (k_49 _ _) (by decide) ⟨nofun, nofun⟩ rfl dX4_put_31 ?_
    refine tt_aload_n X rfl dX4_put_34 ?_
    refine tt_geti X fX4_60 (k_49 _ _) (by decide) (Or.inl rfl) dX4_put_35 ?_
    try simp (disch := decide) only [ot_rd, ot_rs, ot_rf, ot_ucd, ot_ucs]
    refine tt_iload_n X rfl dX4_put_38 ?_
    refine tt_iastore X (k_57 _ _) (by first | omega | (simp (disch := decide) only [ot_rd, ot_rs, ot_rf, ot_ucd, ot_ucs]; omega)) dX4_put_39 ?_
    refine tt_aload_n X rfl dX4_put_40 ?_
    refine tt_dup X dX4_put_41 ?_
    refine tt_geti X fX4_60 (k_49 _ _) (by decide) (Or.inl rfl) dX4_put_42 ?_
    try simp (disch := decide) only [ot_rd, ot_rs, ot_rf, ot_ucd, ot_ucs]
    refine tt_iconst X dX4_put_45 ?_
    refine tt_iadd X dX4_put_46 ?_
    refine tt_puti X fX4_60 kc_4 (k_49 _ _) (by decide) (fun q hq => by cases hq; rfl) rfl dX4_put_47 ?_
    refine tt_vret X ⟨hr.1, hr.2.1⟩ (by decide) (by decide) dX4_put_50 ?_
    exact ⟨rfl, rfl⟩

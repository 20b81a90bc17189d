set_option maxRecDepth 100000 in
set_option maxHeartbeats 1000000 in
theorem q_drawn (l : Launch) (g : ot_G) (ln : Nat) (ext : ot_L) (μ : ot_M) (h0 : μ 60 0 = 0) (k s0 x y : Int) (hk : -2147483648 ≤ k ∧ k ≤ 2147483647) (hs0 : -2147483648 ≤ s0 ∧ s0 ≤ 2147483647) (hx : -2147483648 ≤ x ∧ x ≤ 2147483647) (hy : -2147483648 ≤ y ∧ y ≤ 2147483647)(hG : gPin (μ 60 1) (μ 60 2) (μ 61) (μ 62))  : ot_C l g yX10_drawn cX10_drawn 7 (some .int) 4 0 0 [.inr 60, .inl k, .inl s0, .inl x, .inl y] (LL ln ext) μ (ot_pi (fun r L2 μ2 => L2 = LL ln ext ∧ (∃ F f D, μ2 = ot_uc (ot_uc (ot_uc μ 86 F) 82 f) 83 D) ∧ (((0 < μ 60 2 ∧ 0 ≤ k ∧ k ≤ 99 ∧ 0 ≤ s0 ∧ s0 ≤ 99) ∧ (0 ≤ x ∧ x < μ 60 1 ∧ 0 ≤ y ∧ y < μ 60 1) ∧ r = pairS (fun a b => if eP k s0 (μ 60 2) (μ 60 2) a b then smp (μ 60 1) (μ 61) (μ 62) a b (8 * y + x) else 0) (μ 60 2).toNat) ∨ (¬ ((0 < μ 60 2 ∧ 0 ≤ k ∧ k ≤ 99 ∧ 0 ≤ s0 ∧ s0 ≤ 99) ∧ (0 ≤ x ∧ x < μ 60 1 ∧ 0 ≤ y ∧ y < μ 60 1)) ∧ r = -1)))) := by
  refine ot_enter (by decide) (Nat.le_of_ble_eq_true rfl) ?_
  intro p e s m args below meth c X hr
  refine tt_aload_n X rfl dX10_drawn_0 ?_
  refine tt_iconst X dX10_drawn_1 ?_
  refine tt_puti X fX10_98 kc_10 (k_60 _ _) (by decide) (fun q hq => by cases hq; rfl) rfl dX10_drawn_2 ?_
  refine tt_mem (ot_nop h0) ?_
  refine tt_aload_n X rfl dX10_drawn_5 ?_
  have hS := hG.1
  have hN := hG.2.1
  refine tt_iload_n X rfl dX10_drawn_6 ?_
  refine tt_iload_n X rfl dX10_drawn_7 ?_
  refine tt_vi X rfl mX10_314 (q_isRule l g ln ext _ _ _ (by first | omega | (simp (disch := decide) only [ot_rd, ot_rs, ot_rf, ot_ucd, ot_ucs]; omega)) (by first | omega | (simp (disch := decide) only [ot_rd, ot_rs, ot_rf, ot_ucd, ot_ucs]; omega)) (by first | omega | (simp (disch := decide) only [ot_rd, ot_rs, ot_rf, ot_ucd, ot_ucs]; omega))) (k_60 _ _) ⟨_, rfl, rfl⟩ rfl rfl (Nat.le_of_ble_eq_true rfl) (by decide) (by decide) (by decide) dX10_drawn_8 (fun z8 L8 μ8 hp => ?_)
  obtain ⟨rfl, e8, hz8⟩ := hp
  replace e8 := e8.symm
  subst e8
  try simp (disch := decide) only [ot_rd, ot_rs, ot_rf, ot_ucd, ot_ucs] at hz8
  refine tt_if_eq X 24 (by first | omega | (simp (disch := decide) only [ot_rd, ot_rs, ot_rf, ot_ucd, ot_ucs]; omega)) dX10_drawn_11 (by decide) (fun b11 => ?_) (fun b11 => ?_)
  · refine tt_iconst X dX10_drawn_24 ?_
    refine tt_iret X ⟨hr.1, hr.2.1⟩ (by decide) (by decide) dX10_drawn_25 ?_
    refine ⟨rfl, ⟨μ 86, μ 82, μ 83, ?_⟩, Or.inr ⟨by omega, rfl⟩⟩
    funext u; by_cases u1 : u = 86 <;> by_cases u2 : u = 82 <;> by_cases u3 : u = 83 <;> simp [ot_uc, u1, u2, u3]
  · refine tt_aload_n X rfl dX10_drawn_14 ?_
    refine tt_iload_n X rfl dX10_drawn_15 ?_
    refine tt_iload X rfl dX10_drawn_16 ?_
    refine tt_vi X rfl mX10_121 (q_isSquare l g ln ext _ _ _ (by first | omega | (simp (disch := decide) only [ot_rd, ot_rs, ot_rf, ot_ucd, ot_ucs]; omega)) (by first | omega | (simp (disch := decide) only [ot_rd, ot_rs, ot_rf, ot_ucd, ot_ucs]; omega)) (by first | omega | (simp (disch := decide) only [ot_rd, ot_rs, ot_rf, ot_ucd, ot_ucs]; omega))) (k_60 _ _) ⟨_, rfl, rfl⟩ rfl rfl (Nat.le_of_ble_eq_true rfl) (by decide) (by decide) (by decide) dX10_drawn_18 (fun z18 L18 μ18 hp => ?_)
    obtain ⟨rfl, e18, hz18⟩ := hp
    replace e18 := e18.symm
    subst e18
    try simp (disch := decide) only [ot_rd, ot_rs, ot_rf, ot_ucd, ot_ucs] at hz18
    refine tt_if_ne X 26 (by first | omega | (simp (disch := decide) only [ot_rd, ot_rs, ot_rf, ot_ucd, ot_ucs]; omega)) dX10_drawn_21 (by decide) (fun b21 => ?_) (fun b21 => ?_)
    · refine tt_aload_n X rfl dX10_drawn_26 ?_
      refine tt_iload_n X rfl dX10_drawn_27 ?_
      refine tt_iload_n X rfl dX10_drawn_28 ?_
      refine tt_vv X rfl mX10_317 (q_findsRule l g ln ext _ _ _ (by omega) (by omega) (by omega)) (k_60 _ _) ⟨_, rfl, rfl⟩ rfl rfl (Nat.le_of_ble_eq_true rfl) (by decide) (by decide) (by decide) dX10_drawn_29 (fun L29 μ29 hp => ?_)
      obtain ⟨rfl, F0, hE, rfl⟩ := hp
      refine tt_iconst X dX10_drawn_32 ?_
      refine tt_istore X dX10_drawn_33 (by decide) ?_
      refine tt_mem (μ' := ot_uc (ot_uc (ot_uc μ 86 F0) 82 (μ 82)) 83 (wr 0 (μ 83) (fun _ => 0))) (by rw [wr_zero]; funext u; by_cases u1 : u = 86 <;> by_cases u2 : u = 82 <;> by_cases u3 : u = 83 <;> simp [ot_uc, u1, u2, u3]) ?_
      refine tt_loc [(0, _), (1, _), (2, _), (3, _), (4, _), (5, _)] ⟨rfl, rfl, rfl, rfl, rfl, rfl, trivial⟩ ?_
      refine tt_loop (α := Int) (fun c0 => (64 - c0).toNat) (fun c0 => 0 ≤ c0 ∧ c0 ≤ 64) (fun c0 => ot_uc (ot_uc (ot_uc μ 86 F0) 82 (μ 82)) 83 (wr c0 (μ 83) (fun _ => 0))) (fun c0 => [(0, .inr 60), (1, .inl k), (2, .inl s0), (3, .inl x), (4, .inl y), (5, .inl c0)]) 0 (by omega) ?_
      intro c0 hI ih
      try dsimp only at hI ih ⊢
      refine tt_iload X rfl dX10_drawn_35 ?_
      refine tt_bipush X (by decide) dX10_drawn_37 ?_
      refine tt_icmp_ge X 56 (by first | omega | (simp (disch := decide) only [ot_rd, ot_rs, ot_rf, ot_ucd, ot_ucs]; omega)) dX10_drawn_39 (by decide) (fun b39 => ?_) (fun b39 => ?_)
      · refine tt_iconst X dX10_drawn_56 ?_
        refine tt_istore X dX10_drawn_57 (by decide) ?_
        have hc0 : c0 = 64 := by omega
        subst hc0
        refine tt_loc [(0, _), (1, _), (2, _), (3, _), (4, _), (5, _)] ⟨rfl, rfl, rfl, rfl, rfl, rfl, trivial⟩ ?_
        refine tt_loop (α := Int × (Int → Int)) (fun ((i, f)) => (μ 60 2 - i).toNat) (fun ((i, f)) => 0 ≤ i ∧ i ≤ μ 60 2) (fun ((i, f)) => ot_uc (ot_uc (ot_uc μ 86 F0) 82 f) 83 (wr 64 (μ 83) (fun q => sumN (fun b => sumN (fun a => (fun a b => if eP k s0 (μ 60 2) (μ 60 2) a b then smp (μ 60 1) (μ 61) (μ 62) a b q else 0) a b) b.toNat) (i).toNat))) (fun ((i, f)) => [(0, .inr 60), (1, .inl k), (2, .inl s0), (3, .inl x), (4, .inl y), (5, .inl i)]) (0, μ 82) (by show 0 ≤ (0 : Int) ∧ (0 : Int) ≤ μ 60 2; omega) ?_
        intro a hIi ihi
        obtain ⟨i, f⟩ := a
        try dsimp only at hIi ihi ⊢
        replace hIi : 0 ≤ i ∧ i ≤ μ 60 2 := hIi
        refine tt_iload X rfl dX10_drawn_59 ?_
        refine tt_aload_n X rfl dX10_drawn_61 ?_
        refine tt_geti X fX10_101 (k_60 _ _) (by decide) (Or.inl rfl) dX10_drawn_62 ?_
        try simp (disch := decide) only [ot_rd, ot_rs, ot_rf, ot_ucd, ot_ucs]
        refine tt_icmp_ge X 115 (by first | omega | (simp (disch := decide) only [ot_rd, ot_rs, ot_rf, ot_ucd, ot_ucs]; omega)) dX10_drawn_65 (by decide) (fun b65 => ?_) (fun b65 => ?_)
        · refine tt_aload_n X rfl dX10_drawn_115 ?_
          refine tt_getr X fX10_83 (k_60 _ _) (by decide) ⟨nofun, nofun⟩ rfl dX10_drawn_116 ?_
          refine tt_bipush X (by decide) dX10_drawn_119 ?_
          refine tt_iload X rfl dX10_drawn_121 ?_
          refine tt_imul X dX10_drawn_123 ?_
          refine tt_iload_n X rfl dX10_drawn_124 ?_
          refine tt_iadd X dX10_drawn_125 ?_
          refine tt_iaload X (k_83 _ _) (by omega) dX10_drawn_126 ?_
          try simp (disch := decide) only [ot_rd, ot_rs, ot_rf, ot_ucd, ot_ucs]
          refine tt_iret X ⟨hr.1, hr.2.1⟩ (by decide) (by decide) dX10_drawn_127 ?_
          refine ⟨rfl, ⟨_, _, _, rfl⟩, Or.inl ⟨by omega, by omega, ?_⟩⟩
          rw [wr_in (by omega), show i = μ 60 2 by omega]
          rfl
        · refine tt_iconst X dX10_drawn_68 ?_
          refine tt_istore X dX10_drawn_69 (by decide) ?_
          refine tt_mem (μ' := ot_uc (ot_uc (ot_uc μ 86 F0) 82 f) 83 (wr 64 (μ 83) (fun q => sumN (fun b => sumN (fun a => (fun a b => if eP k s0 (μ 60 2) (μ 60 2) a b then smp (μ 60 1) (μ 61) (μ 62) a b q else 0) a b) b.toNat) (i).toNat + sumN (fun a => (fun a b => if eP k s0 (μ 60 2) (μ 60 2) a b then smp (μ 60 1) (μ 61) (μ 62) a b q else 0) a i) (0 : Int).toNat))) (by congr 1; apply wr_congr; intro q q1 q2; exact (Int.add_zero _).symm) ?_
          refine tt_loc [(0, _), (1, _), (2, _), (3, _), (4, _), (5, _), (6, _)] ⟨rfl, rfl, rfl, rfl, rfl, rfl, rfl, trivial⟩ ?_
          refine tt_loop (α := Int × (Int → Int)) (fun ((j, f2)) => (i - j).toNat) (fun ((j, f2)) => 0 ≤ j ∧ j ≤ i) (fun ((j, f2)) => ot_uc (ot_uc (ot_uc μ 86 F0) 82 f2) 83 (wr 64 (μ 83) (fun q => sumN (fun b => sumN (fun a => (fun a b => if eP k s0 (μ 60 2) (μ 60 2) a b then smp (μ 60 1) (μ 61) (μ 62) a b q else 0) a b) b.toNat) (i).toNat + sumN (fun a => (fun a b => if eP k s0 (μ 60 2) (μ 60 2) a b then smp (μ 60 1) (μ 61) (μ 62) a b q else 0) a i) (j).toNat))) (fun ((j, f2)) => [(0, .inr 60), (1, .inl k), (2, .inl s0), (3, .inl x), (4, .inl y), (5, .inl i), (6, .inl j)]) (0, f) (by show 0 ≤ (0 : Int) ∧ (0 : Int) ≤ i; omega) ?_
          intro a hI ih
          obtain ⟨j, f2⟩ := a
          try dsimp only at hI ih ⊢
          replace hI : 0 ≤ j ∧ j ≤ i := hI
          refine tt_iload X rfl dX10_drawn_71 ?_
          refine tt_iload X rfl dX10_drawn_73 ?_
          refine tt_icmp_ge X 109 (by first | omega | (simp (disch := decide) only [ot_rd, ot_rs, ot_rf, ot_ucd, ot_ucs]; omega)) dX10_drawn_75 (by decide) (fun b75 => ?_) (fun b75 => ?_)
          · refine tt_iinc X dX10_drawn_109 rfl (by decide) ?_
            refine tt_goto X 59 dX10_drawn_112 (by decide) ?_
            refine tt_loc [(0, _), (1, _), (2, _), (3, _), (4, _), (5, _)] ⟨rfl, rfl, rfl, rfl, rfl, rfl, trivial⟩ ?_
            refine tt_mem (μ' := ot_uc (ot_uc (ot_uc μ 86 F0) 82 f2) 83 (wr 64 (μ 83) (fun q => sumN (fun b => sumN (fun a => (fun a b => if eP k s0 (μ 60 2) (μ 60 2) a b then smp (μ 60 1) (μ 61) (μ 62) a b q else 0) a b) b.toNat) (i + 1).toNat))) ?_ ?_
            · congr 1
              apply wr_congr
              intro q q1 q2
              rw [show j = i by omega, sumN_toNat _ hIi.1]
            exact ihi (i + 1, f2) (by show 0 ≤ i + 1 ∧ i + 1 ≤ μ 60 2; omega) (by show (μ 60 2 - (i + 1)).toNat < (μ 60 2 - i).toNat; omega)
          · have hA := (hE i (by omega) (by omega)).1
            refine tt_aload_n X rfl dX10_drawn_78 ?_
            refine tt_getr X fX10_92 (k_60 _ _) (by decide) ⟨nofun, nofun⟩ rfl dX10_drawn_79 ?_
            refine tt_iload X rfl dX10_drawn_82 ?_
            refine tt_iaload X (k_86 _ _) (by first | omega | (simp (disch := decide) only [ot_rd, ot_rs, ot_rf, ot_ucd, ot_ucs]; omega)) dX10_drawn_84 ?_
            try simp (disch := decide) only [ot_rd, ot_rs, ot_rf, ot_ucd, ot_ucs]
            refine tt_iload X rfl dX10_drawn_85 ?_
            refine tt_ishr X dX10_drawn_87 ?_
            refine tt_iconst X dX10_drawn_88 ?_
            refine tt_iand X dX10_drawn_89 ?_
            refine tt_top (bt_test (by omega) (by omega)) ?_
            rw [gE_bt hE (by omega) (by omega)]
            refine tt_iconst X dX10_drawn_90 ?_
            refine tt_icmp_ne X 103 (by split <;> omega) dX10_drawn_91 (by decide) (fun b91 => ?_) (fun b91 => ?_)
            · refine tt_iinc X dX10_drawn_103 rfl (by decide) ?_
              refine tt_goto X 71 dX10_drawn_106 (by decide) ?_
              refine tt_loc [(0, _), (1, _), (2, _), (3, _), (4, _), (5, _), (6, _)] ⟨rfl, rfl, rfl, rfl, rfl, rfl, rfl, trivial⟩ ?_
              first
                | (have w1 : eP k s0 (μ 60 2) (μ 60 2) i j = false := by
                     cases w : eP k s0 (μ 60 2) (μ 60 2) i j
                     · rfl
                     · simp [w] at b91
                   refine tt_mem (μ' := ot_uc (ot_uc (ot_uc μ 86 F0) 82 f2) 83 (wr 64 (μ 83) (fun q => sumN (fun b => sumN (fun a => (fun a b => if eP k s0 (μ 60 2) (μ 60 2) a b then smp (μ 60 1) (μ 61) (μ 62) a b q else 0) a b) b.toNat) (i).toNat + sumN (fun a => (fun a b => if eP k s0 (μ 60 2) (μ 60 2) a b then smp (μ 60 1) (μ 61) (μ 62) a b q else 0) a i) ((j + 1)).toNat))) ?_ ?_
                   · congr 1
                     apply wr_congr
                     intro q q1 q2
                     rw [sumN_toNat _ hI.1]
                     rw [eP_comm] at w1
                     simp only [w1, Bool.false_eq_true, if_false]
                     omega
                   exact ih (j + 1, f2) (by show 0 ≤ j + 1 ∧ j + 1 ≤ i; omega) (by show (i - (j + 1)).toNat < (i - j).toNat; omega))
                | (have w1 : eP k s0 (μ 60 2) (μ 60 2) i j = true := by
                     cases w : eP k s0 (μ 60 2) (μ 60 2) i j
                     · simp [w] at b91
                     · rfl
                   refine tt_mem (μ' := ot_uc (ot_uc (ot_uc μ 86 F0) 82 (wr 64 f2 (smp (μ 60 1) (μ 61) (μ 62) i j))) 83 (wr 64 (μ 83) (fun q => sumN (fun b => sumN (fun a => (fun a b => if eP k s0 (μ 60 2) (μ 60 2) a b then smp (μ 60 1) (μ 61) (μ 62) a b q else 0) a b) b.toNat) (i).toNat + sumN (fun a => (fun a b => if eP k s0 (μ 60 2) (μ 60 2) a b then smp (μ 60 1) (μ 61) (μ 62) a b q else 0) a i) ((j + 1)).toNat))) ?_ ?_
                   · simp (disch := decide) only [ot_ucd, ot_ucs, ot_rd, ot_rs, ot_rf, ot_rdf]
                     funext u
                     by_cases u3 : u = 83
                     · subst u3
                       simp (disch := decide) only [ot_ucd, ot_ucs, ot_rd, ot_rs, ot_rf, ot_rdf]
                       rw [wr_wr]
                       apply wr_congr
                       intro q q1 q2
                       rw [wr_in (by omega), sumN_toNat _ hI.1]
                       rw [eP_comm] at w1
                       simp only [w1, if_true]
                       rw [smp_comm]
                       omega
                     · by_cases u2 : u = 82 <;> by_cases u1 : u = 86 <;> simp [ot_uc, u1, u2, u3]
                   exact ih (j + 1, wr 64 f2 (smp (μ 60 1) (μ 61) (μ 62) i j)) (by show 0 ≤ j + 1 ∧ j + 1 ≤ i; omega) (by show (i - (j + 1)).toNat < (i - j).toNat; omega))
            · refine tt_aload_n X rfl dX10_drawn_94 ?_
              refine tt_iload X rfl dX10_drawn_95 ?_
              refine tt_iload X rfl dX10_drawn_97 ?_
              refine tt_iconst X dX10_drawn_99 ?_
              refine tt_vv X rfl mX10_242 (q_darkens l g ln ext _ _ _ _ (by simp (disch := decide) only [ot_ucd, ot_ucs, ot_rd, ot_rs, ot_rf, ot_rdf]; exact hG) (by simp (disch := decide) only [ot_ucd, ot_ucs, ot_rd, ot_rs, ot_rf, ot_rdf]; omega) (by simp (disch := decide) only [ot_ucd, ot_ucs, ot_rd, ot_rs, ot_rf, ot_rdf]; omega) (by omega)) (k_60 _ _) ⟨_, rfl, rfl⟩ rfl rfl (Nat.le_of_ble_eq_true rfl) (by decide) (by decide) (by decide) dX10_drawn_100 (fun L100 μ100 hp => ?_)
              obtain ⟨rfl, rfl⟩ := hp
              refine tt_iinc X dX10_drawn_103 rfl (by decide) ?_
              refine tt_goto X 71 dX10_drawn_106 (by decide) ?_
              refine tt_loc [(0, _), (1, _), (2, _), (3, _), (4, _), (5, _), (6, _)] ⟨rfl, rfl, rfl, rfl, rfl, rfl, rfl, trivial⟩ ?_
              first
                | (have w1 : eP k s0 (μ 60 2) (μ 60 2) i j = false := by
                     cases w : eP k s0 (μ 60 2) (μ 60 2) i j
                     · rfl
                     · simp [w] at b91
                   refine tt_mem (μ' := ot_uc (ot_uc (ot_uc μ 86 F0) 82 f2) 83 (wr 64 (μ 83) (fun q => sumN (fun b => sumN (fun a => (fun a b => if eP k s0 (μ 60 2) (μ 60 2) a b then smp (μ 60 1) (μ 61) (μ 62) a b q else 0) a b) b.toNat) (i).toNat + sumN (fun a => (fun a b => if eP k s0 (μ 60 2) (μ 60 2) a b then smp (μ 60 1) (μ 61) (μ 62) a b q else 0) a i) ((j + 1)).toNat))) ?_ ?_
                   · congr 1
                     apply wr_congr
                     intro q q1 q2
                     rw [sumN_toNat _ hI.1]
                     rw [eP_comm] at w1
                     simp only [w1, Bool.false_eq_true, if_false]
                     omega
                   exact ih (j + 1, f2) (by show 0 ≤ j + 1 ∧ j + 1 ≤ i; omega) (by show (i - (j + 1)).toNat < (i - j).toNat; omega))
                | (have w1 : eP k s0 (μ 60 2) (μ 60 2) i j = true := by
                     cases w : eP k s0 (μ 60 2) (μ 60 2) i j
                     · simp [w] at b91
                     · rfl
                   refine tt_mem (μ' := ot_uc (ot_uc (ot_uc μ 86 F0) 82 (wr 64 f2 (smp (μ 60 1) (μ 61) (μ 62) i j))) 83 (wr 64 (μ 83) (fun q => sumN (fun b => sumN (fun a => (fun a b => if eP k s0 (μ 60 2) (μ 60 2) a b then smp (μ 60 1) (μ 61) (μ 62) a b q else 0) a b) b.toNat) (i).toNat + sumN (fun a => (fun a b => if eP k s0 (μ 60 2) (μ 60 2) a b then smp (μ 60 1) (μ 61) (μ 62) a b q else 0) a i) ((j + 1)).toNat))) ?_ ?_
                   · simp (disch := decide) only [ot_ucd, ot_ucs, ot_rd, ot_rs, ot_rf, ot_rdf]
                     funext u
                     by_cases u3 : u = 83
                     · subst u3
                       simp (disch := decide) only [ot_ucd, ot_ucs, ot_rd, ot_rs, ot_rf, ot_rdf]
                       rw [wr_wr]
                       apply wr_congr
                       intro q q1 q2
                       rw [wr_in (by omega), sumN_toNat _ hI.1]
                       rw [eP_comm] at w1
                       simp only [w1, if_true]
                       rw [smp_comm]
                       omega
                     · by_cases u2 : u = 82 <;> by_cases u1 : u = 86 <;> simp [ot_uc, u1, u2, u3]
                   exact ih (j + 1, wr 64 f2 (smp (μ 60 1) (μ 61) (μ 62) i j)) (by show 0 ≤ j + 1 ∧ j + 1 ≤ i; omega) (by show (i - (j + 1)).toNat < (i - j).toNat; omega))
      · refine tt_aload_n X rfl dX10_drawn_42 ?_
        refine tt_getr X fX10_83 (k_60 _ _) (by decide) ⟨nofun, nofun⟩ rfl dX10_drawn_43 ?_
        refine tt_iload X rfl dX10_drawn_46 ?_
        refine tt_iconst X dX10_drawn_48 ?_
        refine tt_iastore X (k_83 _ _) (by first | omega | (simp (disch := decide) only [ot_rd, ot_rs, ot_rf, ot_ucd, ot_ucs]; omega)) dX10_drawn_49 ?_
        refine tt_iinc X dX10_drawn_50 rfl (by decide) ?_
        refine tt_goto X 35 dX10_drawn_53 (by decide) ?_
        refine tt_loc [(0, _), (1, _), (2, _), (3, _), (4, _), (5, _)] ⟨rfl, rfl, rfl, rfl, rfl, rfl, trivial⟩ ?_
        refine tt_mem (μ' := ot_uc (ot_uc (ot_uc μ 86 F0) 82 (μ 82)) 83 (wr (c0 + 1) (μ 83) (fun _ => 0))) (by exact ot_uc_wr (by omega) rfl) ?_
        exact ih (c0 + 1) (by omega) (by omega)
    · refine tt_iconst X dX10_drawn_24 ?_
      refine tt_iret X ⟨hr.1, hr.2.1⟩ (by decide) (by decide) dX10_drawn_25 ?_
      refine ⟨rfl, ⟨μ 86, μ 82, μ 83, ?_⟩, Or.inr ⟨by omega, rfl⟩⟩
      funext u; by_cases u1 : u = 86 <;> by_cases u2 : u = 82 <;> by_cases u3 : u = 83 <;> simp [ot_uc, u1, u2, u3]

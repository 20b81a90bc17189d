set_option maxRecDepth 100000 in
set_option maxHeartbeats 1000000 in
theorem c_next (l : Launch) (g : ot_G) (ln : Nat) (ext : ot_L) (μ : ot_M) (op arg lw lf lt : Int → Int) (t pp w : Int) (ht : -2147483648 ≤ t ∧ t ≤ 2147483647) (hpp : -2147483648 ≤ pp ∧ pp ≤ 2147483647) (hw : -2147483648 ≤ w ∧ w ≤ 2147483647)(hG : gPin (μ 1 11) (μ 1 12) (μ 2) (μ 3)) (hCh : gChd (μ 1 11) (μ 1 12) (μ 2) (μ 3) (μ 38) (μ 39)) (hW : gWnd (μ 1 12) (μ 8) (μ 7)) (hCl : gClo (μ 1 11) (μ 2) (μ 3) (μ 8) (μ 7) (μ 6) (μ 34) (μ 35)) (hL : gLaw (μ 13) (μ 14) (μ 15) (μ 12 4) op arg lw lf lt) (hs : gShd (μ 6)) (hw : ∀ k, 0 ≤ k → k < 64 → 0 ≤ μ 5 k ∧ μ 5 k ≤ 9) (hWn : gWnt (μ 1 11) (μ 4))  : ot_C l g yX9_next cX9_next 4 (some .int) 5 0 0 [.inr 0, .inl t, .inl pp, .inl w] (LL ln ext) μ (ot_pi (fun r L2 μ2 => L2 = LL ln ext ∧ eqx [38, 39, 36, 16, 40] μ μ2 ∧ gChd (μ 1 11) (μ 1 12) (μ 2) (μ 3) (μ2 38) (μ2 39) ∧ r = (if ((0 ≤ t ∧ t < 3) ∧ (0 ≤ pp ∧ pp < 4) ∧ 0 ≤ w ∧ w ≤ 1) then (if w = 0 then (nextS op arg lw lf lt (μ 12 4) (μ 1 11) (μ 1 12) (μ 2) (μ 3) (μ 6) (μ 5) (μ 4) pp t (μ 8) (μ 7)).1 else (nextS op arg lw lf lt (μ 12 4) (μ 1 11) (μ 1 12) (μ 2) (μ 3) (μ 6) (μ 5) (μ 4) pp t (μ 8) (μ 7)).2) else -1000000))) := by
  refine ot_enter (by decide) (Nat.le_of_ble_eq_true rfl) ?_
  intro p e s m args below meth c X hr
  refine tt_iload_n X rfl dX9_next_0 ?_
  refine tt_si X rfl mX9_122 (c_isThread l g ln ext _ _ (by first | omega | (simp (disch := decide) only [ot_rd, ot_rs, ot_rf, ot_ucd, ot_ucs]; omega))) rfl rfl (Nat.le_of_ble_eq_true rfl) (by decide) (by decide) (by decide) dX9_next_1 (fun z1 L1 μ1 hp => ?_)
  obtain ⟨rfl, e1, hz1⟩ := hp
  replace e1 := e1.symm
  subst e1
  refine tt_if_eq X 23 (by first | omega | (simp (disch := decide) only [ot_rd, ot_rs, ot_rf, ot_ucd, ot_ucs]; omega)) dX9_next_4 (by decide) (fun b4 => ?_) (fun b4 => ?_)
  · refine tt_ldc X (n := (-1000000)) (ot_mem 784 (by decide +kernel) (by decide +kernel)) dX9_next_23 ?_
    refine tt_iret X ⟨hr.1, hr.2.1⟩ (by decide) (by decide) dX9_next_25 ?_
    exact ⟨rfl, eqx_rfl _ _, hCh, by rw [if_neg (by omega)]⟩
  · refine tt_iload_n X rfl dX9_next_7 ?_
    refine tt_si X rfl mX9_112 (c_isPicture l g ln ext _ _ (by first | omega | (simp (disch := decide) only [ot_rd, ot_rs, ot_rf, ot_ucd, ot_ucs]; omega))) rfl rfl (Nat.le_of_ble_eq_true rfl) (by decide) (by decide) (by decide) dX9_next_8 (fun z8 L8 μ8 hp => ?_)
    obtain ⟨rfl, e8, hz8⟩ := hp
    replace e8 := e8.symm
    subst e8
    refine tt_if_eq X 23 (by first | omega | (simp (disch := decide) only [ot_rd, ot_rs, ot_rf, ot_ucd, ot_ucs]; omega)) dX9_next_11 (by decide) (fun b11 => ?_) (fun b11 => ?_)
    · refine tt_ldc X (n := (-1000000)) (ot_mem 784 (by decide +kernel) (by decide +kernel)) dX9_next_23 ?_
      refine tt_iret X ⟨hr.1, hr.2.1⟩ (by decide) (by decide) dX9_next_25 ?_
      exact ⟨rfl, eqx_rfl _ _, hCh, by rw [if_neg (by omega)]⟩
    · refine tt_iload_n X rfl dX9_next_14 ?_
      refine tt_if_lt X 23 (by first | omega | (simp (disch := decide) only [ot_rd, ot_rs, ot_rf, ot_ucd, ot_ucs]; omega)) dX9_next_15 (by decide) (fun b15 => ?_) (fun b15 => ?_)
      · refine tt_ldc X (n := (-1000000)) (ot_mem 784 (by decide +kernel) (by decide +kernel)) dX9_next_23 ?_
        refine tt_iret X ⟨hr.1, hr.2.1⟩ (by decide) (by decide) dX9_next_25 ?_
        exact ⟨rfl, eqx_rfl _ _, hCh, by rw [if_neg (by omega)]⟩
      · refine tt_iload_n X rfl dX9_next_18 ?_
        refine tt_iconst X dX9_next_19 ?_
        refine tt_icmp_le X 26 (by first | omega | (simp (disch := decide) only [ot_rd, ot_rs, ot_rf, ot_ucd, ot_ucs]; omega)) dX9_next_20 (by decide) (fun b20 => ?_) (fun b20 => ?_)
        · refine tt_aload_n X rfl dX9_next_26 ?_
          refine tt_getr X fX9_33 (k_0 _ _) (by decide) ⟨nofun, nofun⟩ rfl dX9_next_27 ?_
          refine tt_iload_n X rfl dX9_next_30 ?_
          refine tt_iload_n X rfl dX9_next_31 ?_
          refine tt_vv X rfl mX9_211 (c_seekNext l g ln ext _ op arg lw lf lt _ _ hG hCh hW hCl hL hs hw (fun q q1 q2 => gFar_clo hWn hG hW hs hCl ⟨q1, q2⟩) (by omega) (by omega)) (k_40 _ _) ⟨_, rfl, rfl⟩ rfl rfl (Nat.le_of_ble_eq_true rfl) (by decide) (by decide) (by decide) dX9_next_32 (fun L32 μ32 hp => ?_)
          obtain ⟨rfl, hq32, hz32b, hz32c, hz32d, hz32e⟩ := hp
          refine tt_iload_n X rfl dX9_next_35 ?_
          refine tt_if_ne X 49 (by first | omega | (simp (disch := decide) only [ot_rd, ot_rs, ot_rf, ot_ucd, ot_ucs]; omega)) dX9_next_36 (by decide) (fun b36 => ?_) (fun b36 => ?_)
          · refine tt_aload_n X rfl dX9_next_49 ?_
            refine tt_getr X fX9_33 (k_0 _ _) (by decide) ⟨nofun, nofun⟩ rfl dX9_next_50 ?_
            refine tt_geti X fX9_217 (k_40 _ _) (by decide) (Or.inl rfl) dX9_next_53 ?_
            try simp (disch := decide) only [ot_rd, ot_rs, ot_rf, ot_ucd, ot_ucs]
            refine tt_iret X ⟨hr.1, hr.2.1⟩ (by decide) (by decide) dX9_next_56 ?_
            refine ⟨rfl, hq32, hz32b, ?_⟩
            rw [if_pos (by omega), ← hz32c]
            first | (rw [if_pos (by omega)]; done) | rw [if_neg (by omega)]
          · refine tt_aload_n X rfl dX9_next_39 ?_
            refine tt_getr X fX9_33 (k_0 _ _) (by decide) ⟨nofun, nofun⟩ rfl dX9_next_40 ?_
            refine tt_geti X fX9_214 (k_40 _ _) (by decide) (Or.inl rfl) dX9_next_43 ?_
            try simp (disch := decide) only [ot_rd, ot_rs, ot_rf, ot_ucd, ot_ucs]
            refine tt_goto X 56 dX9_next_46 (by decide) ?_
            refine tt_iret X ⟨hr.1, hr.2.1⟩ (by decide) (by decide) dX9_next_56 ?_
            refine ⟨rfl, hq32, hz32b, ?_⟩
            rw [if_pos (by omega), ← hz32c]
            first | (rw [if_pos (by omega)]; done) | rw [if_neg (by omega)]
        · refine tt_ldc X (n := (-1000000)) (ot_mem 784 (by decide +kernel) (by decide +kernel)) dX9_next_23 ?_
          refine tt_iret X ⟨hr.1, hr.2.1⟩ (by decide) (by decide) dX9_next_25 ?_
          exact ⟨rfl, eqx_rfl _ _, hCh, by rw [if_neg (by omega)]⟩
set_option maxRecDepth 100000 in
set_option maxHeartbeats 1000000 in
theorem c_greedy (l : Launch) (g : ot_G) (ln : Nat) (ext : ot_L) (μ : ot_M) (op arg lw lf lt : Int → Int) (t pp nn w G1 : Int) (Gc Gr : Int → Int) (nx : (Int → Int) → (Int → Int) → Int × Int) (hnx : nx = (fun cnt row => nextS op arg lw lf lt (μ 12 4) (μ 1 11) (μ 1 12) (μ 2) (μ 3) (μ 6) (μ 5) (μ 4) pp t cnt row)) (hGG : (G1, Gc, Gr) = grS nx t nn.toNat (μ 8) (μ 7)) (ht : -2147483648 ≤ t ∧ t ≤ 2147483647) (hpp : -2147483648 ≤ pp ∧ pp ≤ 2147483647) (hnn : -2147483648 ≤ nn ∧ nn ≤ 2147483647) (hw : -2147483648 ≤ w ∧ w ≤ 2147483647)(hG : gPin (μ 1 11) (μ 1 12) (μ 2) (μ 3)) (hCh : gChd (μ 1 11) (μ 1 12) (μ 2) (μ 3) (μ 38) (μ 39)) (hW : gWnd (μ 1 12) (μ 8) (μ 7)) (hCl : gClo (μ 1 11) (μ 2) (μ 3) (μ 8) (μ 7) (μ 6) (μ 34) (μ 35)) (hL : gLaw (μ 13) (μ 14) (μ 15) (μ 12 4) op arg lw lf lt) (hs : gShd (μ 6)) (hw : ∀ k, 0 ≤ k → k < 64 → 0 ≤ μ 5 k ∧ μ 5 k ≤ 9) (hWn : gWnt (μ 1 11) (μ 4))  : ot_C l g yX9_greedy cX9_greedy 5 (some .int) 7 0 0 [.inr 0, .inl t, .inl pp, .inl nn, .inl w] (LL ln ext) μ (ot_pi (fun r L2 μ2 => L2 = LL ln ext ∧ ((((0 ≤ t ∧ t < 3) ∧ (0 ≤ pp ∧ pp < 4) ∧ (1 ≤ nn ∧ nn ≤ 40) ∧ 0 ≤ w ∧ w ≤ 2) ∧ eqx [38, 39, 36, 16, 40, 34, 35, 7] μ μ2 ∧ gChd (μ 1 11) (μ 1 12) (μ 2) (μ 3) (μ2 38) (μ2 39) ∧ gWnd (μ 1 12) (μ 8) (μ2 7) ∧ gClo (μ 1 11) (μ 2) (μ 3) (μ 8) (μ2 7) (μ 6) (μ2 34) (μ2 35) ∧ μ2 7 = Gr ∧ r = (if w = 0 then G1 else if w = 1 then farS (μ 5) (μ 4) (dk (μ 1 11) (μ 2) (μ 3) Gc Gr (μ 6)) pp else (if Gc t = 0 then -1 else Gr (120 * t + (Gc t - 1))))) ∨ (¬ ((0 ≤ t ∧ t < 3) ∧ (0 ≤ pp ∧ pp < 4) ∧ (1 ≤ nn ∧ nn ≤ 40) ∧ 0 ≤ w ∧ w ≤ 2) ∧ μ2 = μ ∧ r = -1)))) := by
  refine ot_enter (by decide) (Nat.le_of_ble_eq_true rfl) ?_
  intro p e s m args below meth c X hr
  refine tt_iload_n X rfl dX9_greedy_0 ?_
  refine tt_si X rfl mX9_122 (c_isThread l g ln ext _ _ (by first | omega | (simp (disch := decide) only [ot_rd, ot_rs, ot_rf, ot_ucd, ot_ucs]; omega))) rfl rfl (Nat.le_of_ble_eq_true rfl) (by decide) (by decide) (by decide) dX9_greedy_1 (fun z1 L1 μ1 hp => ?_)
  obtain ⟨rfl, e1, hz1⟩ := hp
  replace e1 := e1.symm
  subst e1
  refine tt_if_eq X 25 (by first | omega | (simp (disch := decide) only [ot_rd, ot_rs, ot_rf, ot_ucd, ot_ucs]; omega)) dX9_greedy_4 (by decide) (fun b4 => ?_) (fun b4 => ?_)
  · refine tt_iconst X dX9_greedy_25 ?_
    refine tt_iret X ⟨hr.1, hr.2.1⟩ (by decide) (by decide) dX9_greedy_26 ?_
    exact ⟨rfl, Or.inr ⟨by omega, rfl, rfl⟩⟩
  · refine tt_iload_n X rfl dX9_greedy_7 ?_
    refine tt_si X rfl mX9_112 (c_isPicture l g ln ext _ _ (by first | omega | (simp (disch := decide) only [ot_rd, ot_rs, ot_rf, ot_ucd, ot_ucs]; omega))) rfl rfl (Nat.le_of_ble_eq_true rfl) (by decide) (by decide) (by decide) dX9_greedy_8 (fun z8 L8 μ8 hp => ?_)
    obtain ⟨rfl, e8, hz8⟩ := hp
    replace e8 := e8.symm
    subst e8
    refine tt_if_eq X 25 (by first | omega | (simp (disch := decide) only [ot_rd, ot_rs, ot_rf, ot_ucd, ot_ucs]; omega)) dX9_greedy_11 (by decide) (fun b11 => ?_) (fun b11 => ?_)
    · refine tt_iconst X dX9_greedy_25 ?_
      refine tt_iret X ⟨hr.1, hr.2.1⟩ (by decide) (by decide) dX9_greedy_26 ?_
      exact ⟨rfl, Or.inr ⟨by omega, rfl, rfl⟩⟩
    · refine tt_iload_n X rfl dX9_greedy_14 ?_
      refine tt_iconst X dX9_greedy_15 ?_
      refine tt_icmp_lt X 25 (by first | omega | (simp (disch := decide) only [ot_rd, ot_rs, ot_rf, ot_ucd, ot_ucs]; omega)) dX9_greedy_16 (by decide) (fun b16 => ?_) (fun b16 => ?_)
      · refine tt_iconst X dX9_greedy_25 ?_
        refine tt_iret X ⟨hr.1, hr.2.1⟩ (by decide) (by decide) dX9_greedy_26 ?_
        exact ⟨rfl, Or.inr ⟨by omega, rfl, rfl⟩⟩
      · refine tt_iload_n X rfl dX9_greedy_19 ?_
        refine tt_bipush X (by decide) dX9_greedy_20 ?_
        refine tt_icmp_le X 27 (by first | omega | (simp (disch := decide) only [ot_rd, ot_rs, ot_rf, ot_ucd, ot_ucs]; omega)) dX9_greedy_22 (by decide) (fun b22 => ?_) (fun b22 => ?_)
        · refine tt_iload X rfl dX9_greedy_27 ?_
          refine tt_if_lt X 38 (by first | omega | (simp (disch := decide) only [ot_rd, ot_rs, ot_rf, ot_ucd, ot_ucs]; omega)) dX9_greedy_29 (by decide) (fun b29 => ?_) (fun b29 => ?_)
          · refine tt_iconst X dX9_greedy_38 ?_
            refine tt_iret X ⟨hr.1, hr.2.1⟩ (by decide) (by decide) dX9_greedy_39 ?_
            exact ⟨rfl, Or.inr ⟨by omega, rfl, rfl⟩⟩
          · refine tt_iload X rfl dX9_greedy_32 ?_
            refine tt_iconst X dX9_greedy_34 ?_
            refine tt_icmp_le X 40 (by first | omega | (simp (disch := decide) only [ot_rd, ot_rs, ot_rf, ot_ucd, ot_ucs]; omega)) dX9_greedy_35 (by decide) (fun b35 => ?_) (fun b35 => ?_)
            · refine tt_aload_n X rfl dX9_greedy_40 ?_
              refine tt_getr X fX9_33 (k_0 _ _) (by decide) ⟨nofun, nofun⟩ rfl dX9_greedy_41 ?_
              refine tt_iload_n X rfl dX9_greedy_44 ?_
              refine tt_iload_n X rfl dX9_greedy_45 ?_
              refine tt_iload_n X rfl dX9_greedy_46 ?_
              refine tt_iload X rfl dX9_greedy_47 ?_
              refine tt_vi X rfl mX9_220 (c_goGreedily l g ln ext _ op arg lw lf lt _ _ _ _ _ _ _ _ hnx hGG hG hCh hW hCl hL hs hw hWn (by omega) (by omega) (by omega) (by omega)) (k_40 _ _) ⟨_, rfl, rfl⟩ rfl rfl (Nat.le_of_ble_eq_true rfl) (by decide) (by decide) (by decide) dX9_greedy_49 (fun z49 L49 μ49 hp => ?_)
              obtain ⟨rfl, h1, h2, h3, h4, h5, h6⟩ := hp
              refine tt_iret X ⟨hr.1, hr.2.1⟩ (by decide) (by decide) dX9_greedy_52 ?_
              exact ⟨rfl, Or.inl ⟨by omega, h1, h2, h3, h4, h5, h6⟩⟩
            · refine tt_iconst X dX9_greedy_38 ?_
              refine tt_iret X ⟨hr.1, hr.2.1⟩ (by decide) (by decide) dX9_greedy_39 ?_
              exact ⟨rfl, Or.inr ⟨by omega, rfl, rfl⟩⟩
        · refine tt_iconst X dX9_greedy_25 ?_
          refine tt_iret X ⟨hr.1, hr.2.1⟩ (by decide) (by decide) dX9_greedy_26 ?_
          exact ⟨rfl, Or.inr ⟨by omega, rfl, rfl⟩⟩
